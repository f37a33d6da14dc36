import java.util.ArrayList;

/**
 * A school of programs: a draft that is read into a program or refused, trials of it, exercises
 * with tests, answers with marks, and a desk that strikes answers that are much alike.
 */
public final class ProgramSchool {
    public static final int NONE = -1;
    public static final int NO_FAULT = 0, SIGN = 1, NUMBER = 2, UNEXPECTED = 3, NESTED = 4, NAMES = 5, DOUBLE = 6, UNKNOWN = 7, COUNT = 8;
    public static final int DONE = 0, FUEL = 1, OVERFLOW = 2, DIVISION = 3, CELL = 4, INPUT = 5, OUTPUT = 6, DEPTH = 7;

    private static final int BYTES = 8;
    private static final int MAX_SIGNS = 300;
    private static final int MAX_LEVELS = 8;
    private static final int MAX_VARIABLES = 8;
    private static final int MAX_OUTPUTS = 8;
    private static final int CELLS = 32;
    private static final int MAX_CALLS = 10;
    private static final int MAX_TRIAL_FUEL = 5000;
    private static final int MAX_EXERCISES = 4;
    private static final int MAX_EXERCISE_FUEL = 2000;
    private static final int MAX_TESTS = 8;
    private static final int MAX_WEIGHT = 10;
    private static final int MAX_EXPECTED = 2;
    private static final int MAX_DAY = 1000;
    private static final int MAX_DAYS_AT_ONCE = 100;
    private static final int PUPILS = 6;
    private static final int MAX_ANSWERS = 30;
    private static final int PERCENT_A_DAY = 10;
    private static final int MAX_PERCENT = 50;
    private static final int LEAST_LIKENESS = 80;
    private static final int LEAST_COMMON = 3;

    // No run takes so many steps: between two steps that take fuel lie at most some hundred.
    private static final int MAX_STEPS = 1000000;
    // Values that wait in an expression stand at different tokens of it, in each call going on.
    private static final int MAX_WAITING = (MAX_CALLS + 1) * MAX_SIGNS / 2;

    private final Row text = new Row(MAX_SIGNS);
    private Program draft = new Program();
    private boolean isDraftRead;
    private boolean isDraftHanded;
    private final Reader reader = new Reader(draft);
    private final Run trialRun = new Run();
    private final Run testRun = new Run();
    private final Machine machine = new Machine(draft, testRun);
    private final Walker walker = new Walker(draft, testRun);
    private final ArrayList<Exercise> exercises = new ArrayList<>();
    private final ArrayList<Answer> answers = new ArrayList<>();
    private final Row marksBefore = new Row(MAX_ANSWERS);
    private final Row passedAnew = new Row(MAX_TESTS);
    private int today;

    public ProgramSchool() {
    }

    // ---- the draft

    public int write(long signs) throws IllegalArgumentException {
        int count = 0;
        for (int i = 0; i < BYTES; i++) {
            int sign = byteOf(signs, i);
            if (sign != 0 && sign != '\n' && (sign < 32 || sign > 126)) {
                throw new IllegalArgumentException("a byte is no sign");
            }
            count += sign == 0 ? 0 : 1;
        }
        if (text.size() + count > MAX_SIGNS) {
            return NONE;
        }
        for (int i = 0; i < BYTES; i++) {
            int sign = byteOf(signs, i);
            if (sign != 0) {
                text.add(sign);
            }
        }
        isDraftRead = false;
        return text.size();
    }

    public int wipe() {
        int count = text.size();
        text.empty();
        isDraftRead = false;
        return count;
    }

    public int erase(int count) throws IllegalArgumentException {
        if (count < 1 || count > text.size()) {
            throw new IllegalArgumentException("no such count of signs");
        }
        text.cut(text.size() - count);
        isDraftRead = false;
        return text.size();
    }

    public int length() {
        return text.size();
    }

    public char signAt(int place) throws IndexOutOfBoundsException {
        if (place < 0 || place >= text.size()) {
            throw new IndexOutOfBoundsException("no such place");
        }
        return (char) text.get(place);
    }

    public int fault() {
        readDraft();
        return draft.fault;
    }

    public int faultPlace() {
        readDraft();
        return draft.fault == NO_FAULT ? NONE : draft.tokens.places.get(draft.faultToken);
    }

    public int draftParts() throws IllegalStateException {
        readDraft();
        requireNoFault();
        return draft.partCount();
    }

    // ---- trials

    public int trial(int fuel, int first, int second) throws IllegalArgumentException, IllegalStateException {
        requireTrialFuel(fuel);
        readDraft();
        requireNoFault();
        machine.run(draft, trialRun, fuel, first, second);
        return trialRun.end();
    }

    public int trialByTree(int fuel, int first, int second) throws IllegalArgumentException, IllegalStateException {
        requireTrialFuel(fuel);
        readDraft();
        requireNoFault();
        walker.run(draft, trialRun, fuel, first, second);
        return trialRun.end();
    }

    public int outputs() {
        return trialRun.outputCount();
    }

    public int outputAt(int place) throws IndexOutOfBoundsException {
        if (place < 0 || place >= trialRun.outputCount()) {
            throw new IndexOutOfBoundsException("no such output");
        }
        return trialRun.output(place);
    }

    public int fuelLeft() {
        return trialRun.fuel();
    }

    public int cellAt(int cell) throws IndexOutOfBoundsException {
        if (cell < 0 || cell >= CELLS) {
            throw new IndexOutOfBoundsException("no such cell");
        }
        return trialRun.cell(cell);
    }

    // ---- exercises

    public int addExercise(int fuel, int due) throws IllegalArgumentException, IllegalStateException {
        if (fuel < 1 || fuel > MAX_EXERCISE_FUEL || due < today || due > MAX_DAY) {
            throw new IllegalArgumentException("fuel or due is out of range");
        }
        if (exercises.size() >= MAX_EXERCISES) {
            throw new IllegalStateException("there is no room for an exercise");
        }
        exercises.add(new Exercise(exercises.size(), fuel, due));
        return exercises.size() - 1;
    }

    public int addTest(int exercise, int weight, int first, int second, int count, int one, int other) throws IndexOutOfBoundsException, IllegalArgumentException, IllegalStateException {
        Exercise task = exerciseAt(exercise);
        if (weight < 1 || weight > MAX_WEIGHT || count < 0 || count > MAX_EXPECTED) {
            throw new IllegalArgumentException("weight or count is out of range");
        }
        if (task.testCount() >= MAX_TESTS) {
            throw new IllegalStateException("there is no room for a test");
        }
        Test test = new Test(weight, first, second, count, one, other);
        task.add(test);
        for (int i = 0; i < answers.size(); i++) {
            Answer answer = answers.get(i);
            if (answer.exercise.number == exercise) {
                test(answer, test);
            }
        }
        return task.testCount() - 1;
    }

    public int withdraw(int exercise, int test) throws IndexOutOfBoundsException, IllegalStateException {
        Exercise task = exerciseAt(exercise);
        Test withdrawn = testAt(task, test);
        if (withdrawn.isWithdrawn) {
            throw new IllegalStateException("the test was withdrawn");
        }
        noteMarks();
        withdrawn.isWithdrawn = true;
        int changed = 0;
        for (int i = 0; i < answers.size(); i++) {
            changed += answers.get(i).markNow() == marksBefore.get(i) ? 0 : 1;
        }
        return changed;
    }

    public int pass(int days) throws IllegalArgumentException, IllegalStateException {
        if (days < 1 || days > MAX_DAYS_AT_ONCE) {
            throw new IllegalArgumentException("days are out of range");
        }
        if (today + days > MAX_DAY) {
            throw new IllegalStateException("there is no such day");
        }
        today += days;
        return today;
    }

    public int today() {
        return today;
    }

    // ---- answers and marks

    public int hand(int pupil, int exercise) throws IndexOutOfBoundsException, IllegalStateException {
        requirePupil(pupil);
        Exercise task = exerciseAt(exercise);
        readDraft();
        requireNoFault();
        if (answers.size() >= MAX_ANSWERS) {
            throw new IllegalStateException("there is no room for an answer");
        }
        Answer answer = new Answer(pupil, task, today, draft);
        isDraftHanded = true;
        for (int i = 0; i < answers.size(); i++) {
            answer.commons.add(draft.partsInCommon(answers.get(i).program));
        }
        answer.commons.add(draft.partCount());
        for (int i = 0; i < task.testCount(); i++) {
            test(answer, testAt(task, i));
        }
        answers.add(answer);
        return answers.size() - 1;
    }

    public int answers() {
        return answers.size();
    }

    public boolean passes(int answer, int test) throws IndexOutOfBoundsException {
        Answer asked = answerAt(answer);
        testAt(asked.exercise, test);
        return asked.passed.get(test) == 1;
    }

    public int endOf(int answer, int test) throws IndexOutOfBoundsException {
        Answer asked = answerAt(answer);
        testAt(asked.exercise, test);
        return asked.ends.get(test);
    }

    public int points(int answer) throws IndexOutOfBoundsException {
        Answer asked = answerAt(answer);
        return asked.exercise.pointsFor(asked.passed);
    }

    public int mark(int answer) throws IndexOutOfBoundsException {
        return answerAt(answer).markNow();
    }

    public int markAnew(int answer) throws IndexOutOfBoundsException {
        Answer asked = answerAt(answer);
        Exercise task = asked.exercise;
        passedAnew.empty();
        for (int i = 0; i < task.testCount(); i++) {
            Test test = testAt(task, i);
            walker.run(asked.program, testRun, task.fuel, test.first, test.second);
            passedAnew.add(test.isPassedBy(testRun) ? 1 : 0);
        }
        return asked.markFor(task.pointsFor(passedAnew));
    }

    public int best(int pupil, int exercise) throws IndexOutOfBoundsException {
        requirePupil(pupil);
        Exercise task = exerciseAt(exercise);
        int best = NONE;
        for (int i = 0; i < answers.size(); i++) {
            Answer answer = answers.get(i);
            if (answer.pupil == pupil && answer.exercise.number == exercise) {
                best = Math.max(best, answer.markNow());
            }
        }
        return best;
    }

    public int passed(int exercise, int test) throws IndexOutOfBoundsException {
        Exercise task = exerciseAt(exercise);
        testAt(task, test);
        int count = 0;
        for (int i = 0; i < answers.size(); i++) {
            Answer answer = answers.get(i);
            if (answer.exercise.number == exercise) {
                count += answer.passed.get(test);
            }
        }
        return count;
    }

    // ---- the desk

    public int parts(int answer) throws IndexOutOfBoundsException {
        return answerAt(answer).program.partCount();
    }

    public int common(int answer, int other) throws IndexOutOfBoundsException {
        requireAnswer(answer);
        requireAnswer(other);
        return commonOf(answer, other);
    }

    public int likeness(int answer, int other) throws IndexOutOfBoundsException {
        requireAnswer(answer);
        requireAnswer(other);
        return likenessOf(answer, other);
    }

    public int accuse(int answer, int other) throws IndexOutOfBoundsException, IllegalStateException {
        Answer accused = answerAt(answer);
        requireAnswer(other);
        if (accused.isStruck || !canAccuse(answer, other)) {
            throw new IllegalStateException("the answer cannot be accused");
        }
        int mark = accused.markNow();
        accused.isStruck = true;
        return mark;
    }

    public int clear(int answer) throws IndexOutOfBoundsException, IllegalStateException {
        Answer cleared = answerAt(answer);
        if (!cleared.isStruck) {
            throw new IllegalStateException("the answer is not struck");
        }
        cleared.isStruck = false;
        return cleared.markNow();
    }

    public int doubt(int answer) throws IndexOutOfBoundsException {
        requireAnswer(answer);
        for (int i = 0; i < answer && i < answers.size(); i++) {
            if (canAccuse(answer, i)) {
                return i;
            }
        }
        return NONE;
    }

    // ---- what the calls have in common

    private static int byteOf(long bytes, int place) {
        return (int) ((bytes >>> (8 * place)) & 255);
    }

    private static void requireTrialFuel(int fuel) {
        if (fuel < 0 || fuel > MAX_TRIAL_FUEL) {
            throw new IllegalArgumentException("fuel is out of range");
        }
    }

    private static void requirePupil(int pupil) {
        if (pupil < 0 || pupil >= PUPILS) {
            throw new IndexOutOfBoundsException("no such pupil");
        }
    }

    private void requireAnswer(int answer) {
        if (answer < 0 || answer >= answers.size()) {
            throw new IndexOutOfBoundsException("no such answer");
        }
    }

    private Answer answerAt(int answer) {
        if (answer < 0 || answer >= answers.size()) {
            throw new IndexOutOfBoundsException("no such answer");
        }
        return answers.get(answer);
    }

    private Exercise exerciseAt(int exercise) {
        if (exercise < 0 || exercise >= exercises.size()) {
            throw new IndexOutOfBoundsException("no such exercise");
        }
        return exercises.get(exercise);
    }

    private static Test testAt(Exercise exercise, int test) {
        Test found = exercise.test(test);
        if (found == null) {
            throw new IndexOutOfBoundsException("no such test");
        }
        return found;
    }

    /** Reads the draft into a program, once for all calls until the text changes. */
    private void readDraft() {
        if (isDraftRead) {
            return;
        }
        // An answer keeps the program that was handed in, so the next text needs another one.
        if (isDraftHanded) {
            draft = new Program();
            isDraftHanded = false;
        }
        draft.tokens.scan(text);
        reader.read(draft);
        isDraftRead = true;
    }

    private void requireNoFault() {
        if (draft.fault != NO_FAULT) {
            throw new IllegalStateException("the draft has a fault");
        }
    }

    /** Runs an answer for the next test that it has not been run for. */
    private void test(Answer answer, Test test) {
        machine.run(answer.program, testRun, answer.exercise.fuel, test.first, test.second);
        answer.ends.add(testRun.end());
        answer.passed.add(test.isPassedBy(testRun) ? 1 : 0);
    }

    private void noteMarks() {
        marksBefore.empty();
        for (int i = 0; i < answers.size(); i++) {
            marksBefore.add(answers.get(i).markNow());
        }
    }

    private int commonOf(int answer, int other) {
        return answerAt(Math.max(answer, other)).commons.get(Math.min(answer, other));
    }

    private int likenessOf(int answer, int other) {
        int both = answerAt(answer).program.partCount() + answerAt(other).program.partCount();
        return both == 0 ? 0 : 200 * commonOf(answer, other) / both;
    }

    private boolean canAccuse(int answer, int other) {
        Answer accused = answerAt(answer);
        Answer earlier = answerAt(other);
        return other < answer && accused.pupil != earlier.pupil && accused.exercise.number == earlier.exercise.number
                && likenessOf(answer, other) >= LEAST_LIKENESS && commonOf(answer, other) >= LEAST_COMMON;
    }

    /** A row of ints up to a limit: what lies outside of it reads as 0 and is not written. */
    private static final class Row {
        private final int[] items;
        private int size;

        Row(int limit) {
            items = new int[limit < 0 ? 0 : limit];
        }

        int size() {
            return size;
        }

        int get(int place) {
            return place >= 0 && place < size && place < items.length ? items[place] : 0;
        }

        void set(int place, int item) {
            if (place >= 0 && place < size && place < items.length) {
                items[place] = item;
            }
        }

        void add(int item) {
            if (size >= 0 && size < items.length) {
                items[size] = item;
                size++;
            }
        }

        int last() {
            return size > 0 && size <= items.length ? items[size - 1] : 0;
        }

        int takeLast() {
            if (size < 1 || size > items.length) {
                return 0;
            }
            size--;
            return items[size];
        }

        void cut(int newSize) {
            if (newSize >= 0 && newSize < size) {
                size = newSize;
            }
        }

        void empty() {
            size = 0;
        }

        void fillWithZeros() {
            size = items.length;
            for (int i = 0; i < items.length; i++) {
                items[i] = 0;
            }
        }

        int placeOf(int item) {
            for (int i = 0; i < size && i < items.length; i++) {
                if (items[i] == item) {
                    return i;
                }
            }
            return NONE;
        }
    }

    /** The tokens of a text: what each is, a value of it, and its place. */
    private static final class Tokens {
        static final int END = 0, BAD_SIGN = 1, BAD_NUMBER = 2, NUMERAL = 3, NAME = 4;
        static final int IF = 5, ELSE = 6, WHILE = 7, OUT = 8, IN = 9, DEF = 10, RETURN = 11;
        static final int PLUS = 12, MINUS = 13, STAR = 14, SLASH = 15, PERCENT = 16;
        static final int LESS = 17, LESS_OR_EQUAL = 18, MORE = 19, MORE_OR_EQUAL = 20, EQUAL = 21, UNEQUAL = 22;
        static final int AND = 23, OR = 24, NOT = 25, HASH = 26, BECOMES = 27;
        static final int OPEN = 28, CLOSE = 29, BLOCK = 30, BLOCK_END = 31, COMMA = 32, SEMICOLON = 33;
        // What the reader makes of names, of -, of # of a statement, and of ( of a call. Texts that
        // are the same token by token are read the same, so these tell no more of them apart.
        static final int VARIABLE = 34, FUNCTION = 35, NEGATE = 36, TARGET = 37, CALL = 38;

        static final int OPERAND_LEVEL = 7;
        private static final long MAX_NUMBER = 2147483647L;

        final Row kinds = new Row(MAX_SIGNS + 1);
        final Row values = new Row(MAX_SIGNS + 1);
        final Row places = new Row(MAX_SIGNS + 1);
        private final Row nameStarts = new Row(MAX_SIGNS);
        private final Row nameSizes = new Row(MAX_SIGNS);

        void scan(Row signs) {
            kinds.empty();
            values.empty();
            places.empty();
            nameStarts.empty();
            nameSizes.empty();
            int place = 0;
            for (int i = 0; i < MAX_SIGNS && place < signs.size(); i++) {
                int sign = signs.get(place);
                if (sign == ' ' || sign == '\n') {
                    place++;
                } else if (isDigit(sign)) {
                    place = scanNumber(signs, place);
                } else if (isLetter(sign)) {
                    place = scanWord(signs, place);
                } else {
                    place = scanMark(signs, place);
                }
            }
            add(END, 0, signs.size());
        }

        int last() {
            return kinds.size() - 1;
        }

        /** The level of a mark with operands in expressions, 0 for all other tokens. */
        static int levelOf(int kind) {
            switch (kind) {
                case OR:
                    return 1;
                case AND:
                    return 2;
                case EQUAL: case UNEQUAL:
                    return 3;
                case LESS: case LESS_OR_EQUAL: case MORE: case MORE_OR_EQUAL:
                    return 4;
                case PLUS: case MINUS:
                    return 5;
                case STAR: case SLASH: case PERCENT:
                    return 6;
                case NEGATE: case NOT: case HASH:
                    return OPERAND_LEVEL;
                default:
                    return 0;
            }
        }

        private void add(int kind, int value, int place) {
            kinds.add(kind);
            values.add(value);
            places.add(place);
        }

        private int scanNumber(Row signs, int start) {
            long value = 0;
            int end = start;
            while (end < signs.size() && isDigit(signs.get(end))) {
                // Any number above the greatest one will do, so it need not grow further.
                value = Math.min(value * 10 + signs.get(end) - '0', MAX_NUMBER + 1);
                end++;
            }
            add(value > MAX_NUMBER ? BAD_NUMBER : NUMERAL, (int) value, start);
            return end;
        }

        private int scanWord(Row signs, int start) {
            int end = start;
            while (end < signs.size() && isLetter(signs.get(end))) {
                end++;
            }
            int kind = keyword(signs, start, end - start);
            add(kind, kind == NAME ? nameNumber(signs, start, end - start) : 0, start);
            return end;
        }

        private static int keyword(Row signs, int start, int size) {
            return isWord(signs, start, size, "if") ? IF
                    : isWord(signs, start, size, "else") ? ELSE
                    : isWord(signs, start, size, "while") ? WHILE
                    : isWord(signs, start, size, "out") ? OUT
                    : isWord(signs, start, size, "in") ? IN
                    : isWord(signs, start, size, "def") ? DEF
                    : isWord(signs, start, size, "return") ? RETURN
                    : NAME;
        }

        private static boolean isWord(Row signs, int start, int size, String word) {
            if (size != word.length()) {
                return false;
            }
            for (int i = 0; i < word.length(); i++) {
                if (signs.get(start + i) != word.charAt(i)) {
                    return false;
                }
            }
            return true;
        }

        /** The number of a name among the different names of the text. */
        private int nameNumber(Row signs, int start, int size) {
            for (int i = 0; i < nameStarts.size(); i++) {
                if (nameSizes.get(i) == size && areSame(signs, nameStarts.get(i), start, size)) {
                    return i;
                }
            }
            nameStarts.add(start);
            nameSizes.add(size);
            return nameStarts.size() - 1;
        }

        private static boolean areSame(Row signs, int start, int other, int size) {
            for (int i = 0; i < size; i++) {
                if (signs.get(start + i) != signs.get(other + i)) {
                    return false;
                }
            }
            return true;
        }

        private int scanMark(Row signs, int place) {
            int two = markOfTwo(signs.get(place), signs.get(place + 1));
            if (two != BAD_SIGN) {
                add(two, 0, place);
                return place + 2;
            }
            add(markOfOne(signs.get(place)), 0, place);
            return place + 1;
        }

        private static int markOfTwo(int sign, int next) {
            if (next == '=') {
                return sign == '<' ? LESS_OR_EQUAL : sign == '>' ? MORE_OR_EQUAL
                        : sign == '=' ? EQUAL : sign == '!' ? UNEQUAL : BAD_SIGN;
            }
            if (sign != next) {
                return BAD_SIGN;
            }
            return sign == '&' ? AND : sign == '|' ? OR : BAD_SIGN;
        }

        private static int markOfOne(int sign) {
            switch (sign) {
                case '+': return PLUS;
                case '-': return MINUS;
                case '*': return STAR;
                case '/': return SLASH;
                case '%': return PERCENT;
                case '<': return LESS;
                case '>': return MORE;
                case '!': return NOT;
                case '#': return HASH;
                case '=': return BECOMES;
                case '(': return OPEN;
                case ')': return CLOSE;
                case '{': return BLOCK;
                case '}': return BLOCK_END;
                case ',': return COMMA;
                case ';': return SEMICOLON;
                default: return BAD_SIGN;
            }
        }

        private static boolean isDigit(int sign) {
            return sign >= '0' && sign <= '9';
        }

        private static boolean isLetter(int sign) {
            return sign >= 'a' && sign <= 'z';
        }
    }

    /** What is read from a text: its tokens, parts, defs and codes, or the first fault. */
    private static final class Program {
        final Tokens tokens = new Tokens();
        private final Row partStarts = new Row(MAX_SIGNS / 2);
        private final Row partEnds = new Row(MAX_SIGNS / 2);
        private final Row codes = new Row(2 * MAX_SIGNS);
        private final Row operands = new Row(2 * MAX_SIGNS);
        private final Row defNames = new Row(MAX_SIGNS / 4);
        private final Row defParameters = new Row(MAX_SIGNS / 4);
        private final Row defBlocks = new Row(MAX_SIGNS / 4);
        private final Row defEntries = new Row(MAX_SIGNS / 4);
        int fault = NO_FAULT;
        int faultToken;

        void begin() {
            partStarts.empty();
            partEnds.empty();
            codes.empty();
            operands.empty();
            defNames.empty();
            defParameters.empty();
            defBlocks.empty();
            defEntries.empty();
            fault = NO_FAULT;
        }

        int beginPart(int token) {
            partStarts.add(token);
            partEnds.add(token);
            return partStarts.size() - 1;
        }

        void endPart(int part, int token) {
            partEnds.set(part, token);
        }

        int partCount() {
            return partStarts.size();
        }

        int addCode(int code, int operand) {
            codes.add(code);
            operands.add(operand);
            return codes.size() - 1;
        }

        int codeCount() {
            return codes.size();
        }

        int code(int place) {
            return codes.get(place);
        }

        int operand(int place) {
            return operands.get(place);
        }

        void setOperand(int place, int operand) {
            operands.set(place, operand);
        }

        int addDef(int name) {
            defNames.add(name);
            defParameters.add(0);
            defBlocks.add(0);
            defEntries.add(0);
            return defNames.size() - 1;
        }

        void setDef(int def, int parameters, int block, int entry) {
            defParameters.set(def, parameters);
            defBlocks.set(def, block);
            defEntries.set(def, entry);
        }

        /** The def with a name; NONE if there is none. */
        int defNamed(int name) {
            return defNames.placeOf(name);
        }

        int parameters(int def) {
            return defParameters.get(def);
        }

        int block(int def) {
            return defBlocks.get(def);
        }

        int entry(int def) {
            return defEntries.get(def);
        }

        /** How many parts this and another program have in common. */
        int partsInCommon(Program other) {
            Row taken = new Row(other.partCount());
            taken.fillWithZeros();
            int count = 0;
            for (int i = 0; i < partCount(); i++) {
                int like = freePartLike(i, other, taken);
                if (like != NONE) {
                    taken.set(like, 1);
                    count++;
                }
            }
            return count;
        }

        private int freePartLike(int part, Program other, Row taken) {
            for (int i = 0; i < other.partCount(); i++) {
                if (taken.get(i) == 0 && areAlike(part, other, i)) {
                    return i;
                }
            }
            return NONE;
        }

        private boolean areAlike(int part, Program other, int otherPart) {
            int start = partStarts.get(part);
            int otherStart = other.partStarts.get(otherPart);
            int size = partEnds.get(part) - start;
            if (other.partEnds.get(otherPart) - otherStart != size) {
                return false;
            }
            for (int i = 0; i < size; i++) {
                if (tokens.kinds.get(start + i) != other.tokens.kinds.get(otherStart + i)) {
                    return false;
                }
            }
            return true;
        }
    }

    /** Reads tokens into a program. Behind a fault it stands at the end, where nothing goes on. */
    private static final class Reader {
        private Program program;
        private Tokens tokens;
        private int at;
        private int end;
        private int level;
        private boolean isInDef;
        private final Row outerNames = new Row(MAX_VARIABLES);
        private final Row innerNames = new Row(MAX_VARIABLES);
        private final Row callTokens = new Row(MAX_SIGNS / 2);
        private final Row callArguments = new Row(MAX_SIGNS / 2);
        private final Row callCodes = new Row(MAX_SIGNS / 2);

        Reader(Program program) {
            this.program = program;
            this.tokens = program.tokens;
        }

        void read(Program text) {
            program = text;
            tokens = text.tokens;
            program.begin();
            at = 0;
            end = tokens.last();
            level = 0;
            isInDef = false;
            outerNames.empty();
            callTokens.empty();
            callArguments.empty();
            callCodes.empty();
            for (int i = 0; i < MAX_SIGNS && kind() != Tokens.END; i++) {
                statement();
            }
            program.addCode(Machine.STOP, 0);
            nameFault();
            linkCalls();
        }

        /** What cannot stand at a place may be no token at all, or no number. */
        private void nameFault() {
            if (program.fault == UNEXPECTED) {
                int kind = tokens.kinds.get(program.faultToken);
                program.fault = kind == Tokens.BAD_SIGN ? SIGN : kind == Tokens.BAD_NUMBER ? NUMBER : UNEXPECTED;
            }
        }

        private int kind() {
            return tokens.kinds.get(at);
        }

        private Row names() {
            return isInDef ? innerNames : outerNames;
        }

        /** Keeps the first fault only: what is met behind it is none. */
        private void refuse(int fault, int token) {
            if (program.fault == NO_FAULT) {
                program.fault = fault;
                program.faultToken = token;
            }
            at = end;
        }

        private void expect(int kind) {
            if (tokens.kinds.get(at) == kind) {
                at++;
            } else {
                refuse(UNEXPECTED, at);
            }
        }

        private void openLevel() {
            if (level >= MAX_LEVELS) {
                refuse(NESTED, at);
            } else {
                level++;
                at++;
            }
        }

        private void statement() {
            int part = program.beginPart(at);
            int kind = kind();
            if (kind != Tokens.WHILE && kind != Tokens.DEF) {
                program.addCode(Machine.BEGIN, 0);
            }
            switch (kind) {
                case Tokens.NAME:
                    nameStatement();
                    break;
                case Tokens.HASH:
                    cellStatement();
                    break;
                case Tokens.OUT:
                    at++;
                    expression(1);
                    program.addCode(Machine.PUT, 0);
                    expect(Tokens.SEMICOLON);
                    break;
                case Tokens.IF:
                    ifStatement();
                    break;
                case Tokens.WHILE:
                    whileStatement();
                    break;
                case Tokens.DEF:
                    defStatement();
                    break;
                case Tokens.RETURN:
                    returnStatement();
                    break;
                default:
                    refuse(UNEXPECTED, at);
            }
            program.endPart(part, at);
        }

        private void nameStatement() {
            if (tokens.kinds.get(at + 1) == Tokens.OPEN) {
                call();
                program.addCode(Machine.DROP, 0);
            } else {
                int variable = variable(names());
                expect(Tokens.BECOMES);
                expression(1);
                program.addCode(Machine.STORE, variable);
            }
            expect(Tokens.SEMICOLON);
        }

        private void cellStatement() {
            tokens.kinds.set(at, Tokens.TARGET);
            openLevel();
            operand();
            level--;
            expect(Tokens.BECOMES);
            expression(1);
            program.addCode(Machine.STORE_CELL, 0);
            expect(Tokens.SEMICOLON);
        }

        private void ifStatement() {
            int owner = at;
            at++;
            expression(1);
            int otherwise = program.addCode(Machine.JUMP_IF_ZERO, 0);
            block(owner);
            if (kind() == Tokens.ELSE) {
                int other = at;
                at++;
                int behind = program.addCode(Machine.JUMP, 0);
                program.setOperand(otherwise, program.codeCount());
                block(other);
                program.setOperand(behind, program.codeCount());
            } else {
                program.setOperand(otherwise, program.codeCount());
            }
        }

        private void whileStatement() {
            int owner = at;
            at++;
            int ask = program.addCode(Machine.BEGIN, 0);
            expression(1);
            int behind = program.addCode(Machine.JUMP_IF_ZERO, 0);
            block(owner);
            program.addCode(Machine.JUMP, ask);
            program.setOperand(behind, program.codeCount());
        }

        private void returnStatement() {
            if (!isInDef) {
                refuse(UNEXPECTED, at);
                return;
            }
            at++;
            expression(1);
            program.addCode(Machine.RETURN, 0);
            expect(Tokens.SEMICOLON);
        }

        private void defStatement() {
            int owner = at;
            if (level > 0) {
                refuse(UNEXPECTED, at);
                return;
            }
            at++;
            if (kind() != Tokens.NAME) {
                refuse(UNEXPECTED, at);
                return;
            }
            if (program.defNamed(tokens.values.get(at)) != NONE) {
                refuse(DOUBLE, at);
                return;
            }
            int def = program.addDef(tokens.values.get(at));
            tokens.kinds.set(at, Tokens.FUNCTION);
            at++;
            int over = program.addCode(Machine.JUMP, 0);
            parameters();
            program.setDef(def, innerNames.size(), at, program.codeCount());
            isInDef = true;
            block(owner);
            isInDef = false;
            program.addCode(Machine.PUSH, 0);
            program.addCode(Machine.RETURN, 0);
            program.setOperand(over, program.codeCount());
            // The walker goes on there when it comes to the def.
            tokens.values.set(owner, at);
        }

        private void parameters() {
            innerNames.empty();
            if (kind() != Tokens.OPEN) {
                refuse(UNEXPECTED, at);
                return;
            }
            openLevel();
            if (kind() != Tokens.CLOSE) {
                parameter();
                for (int i = 0; i < MAX_SIGNS && kind() == Tokens.COMMA; i++) {
                    at++;
                    parameter();
                }
            }
            expect(Tokens.CLOSE);
            level--;
        }

        private void parameter() {
            if (kind() != Tokens.NAME) {
                refuse(UNEXPECTED, at);
            } else if (innerNames.placeOf(tokens.values.get(at)) != NONE) {
                refuse(DOUBLE, at);
            } else {
                variable(innerNames);
            }
        }

        private void block(int owner) {
            int start = at;
            if (kind() != Tokens.BLOCK) {
                refuse(UNEXPECTED, at);
                return;
            }
            openLevel();
            for (int i = 0; i < MAX_SIGNS && kind() != Tokens.BLOCK_END && kind() != Tokens.END; i++) {
                statement();
            }
            // The walker finds behind a block, and from its end to the statement that it is of.
            tokens.values.set(start, at + 1);
            tokens.values.set(at, owner);
            expect(Tokens.BLOCK_END);
            level--;
        }

        /** An expression of a level: some of the next one with marks of this level between them. */
        private void expression(int own) {
            if (own >= Tokens.OPERAND_LEVEL) {
                operand();
                return;
            }
            expression(own + 1);
            for (int i = 0; i < MAX_SIGNS && Tokens.levelOf(kind()) == own; i++) {
                int mark = at;
                int kind = kind();
                at++;
                if (kind == Tokens.AND || kind == Tokens.OR) {
                    int decided = program.addCode(kind == Tokens.AND ? Machine.AND : Machine.OR, 0);
                    expression(own + 1);
                    program.addCode(Machine.TRUTH, 0);
                    program.setOperand(decided, program.codeCount());
                    // The walker goes on there when the left operand tells already.
                    tokens.values.set(mark, at);
                } else {
                    expression(own + 1);
                    program.addCode(Machine.TWO, kind);
                }
            }
        }

        private void operand() {
            switch (kind()) {
                case Tokens.MINUS:
                    tokens.kinds.set(at, Tokens.NEGATE);
                    markedOperand();
                    break;
                case Tokens.NOT: case Tokens.HASH:
                    markedOperand();
                    break;
                case Tokens.NUMERAL:
                    program.addCode(Machine.PUSH, tokens.values.get(at));
                    at++;
                    break;
                case Tokens.IN:
                    program.addCode(Machine.READ, 0);
                    at++;
                    break;
                case Tokens.OPEN:
                    openLevel();
                    expression(1);
                    expect(Tokens.CLOSE);
                    level--;
                    break;
                case Tokens.NAME:
                    if (tokens.kinds.get(at + 1) == Tokens.OPEN) {
                        call();
                    } else {
                        program.addCode(Machine.LOAD, variable(names()));
                    }
                    break;
                default:
                    refuse(UNEXPECTED, at);
            }
        }

        private void markedOperand() {
            int kind = kind();
            openLevel();
            operand();
            level--;
            program.addCode(Machine.ONE, kind);
        }

        private void call() {
            int call = callTokens.size();
            callTokens.add(at);
            callArguments.add(0);
            callCodes.add(0);
            tokens.kinds.set(at, Tokens.FUNCTION);
            at++;
            tokens.kinds.set(at, Tokens.CALL);
            openLevel();
            int count = 0;
            if (kind() != Tokens.CLOSE) {
                expression(1);
                count++;
                for (int i = 0; i < MAX_SIGNS && kind() == Tokens.COMMA; i++) {
                    at++;
                    expression(1);
                    count++;
                }
            }
            expect(Tokens.CLOSE);
            level--;
            callArguments.set(call, count);
            callCodes.set(call, program.addCode(Machine.CALL, 0));
        }

        /** Reads the name of a variable; its number among the names of its def or of the program. */
        private int variable(Row names) {
            int variable = names.placeOf(tokens.values.get(at));
            if (variable == NONE) {
                if (names.size() >= MAX_VARIABLES) {
                    refuse(NAMES, at);
                    return 0;
                }
                variable = names.size();
                names.add(tokens.values.get(at));
            }
            tokens.kinds.set(at, Tokens.VARIABLE);
            tokens.values.set(at, variable);
            at++;
            return variable;
        }

        /** Finds the defs of all calls, when all defs are known; the calls are in their order. */
        private void linkCalls() {
            for (int i = 0; i < callTokens.size() && program.fault == NO_FAULT; i++) {
                int token = callTokens.get(i);
                int def = program.defNamed(tokens.values.get(token));
                if (def == NONE) {
                    refuse(UNKNOWN, token);
                } else if (program.parameters(def) != callArguments.get(i)) {
                    refuse(COUNT, token);
                } else {
                    tokens.values.set(token, def);
                    program.setOperand(callCodes.get(i), def);
                }
            }
        }
    }

    /** What a run has, whichever way it is done: once it has ended, nothing of it changes. */
    private static final class Run {
        private static final int GOING = -1;
        private static final long LEAST = -2147483648L;
        private static final long GREATEST = 2147483647L;

        private final Row outputs = new Row(MAX_OUTPUTS);
        private final Row cells = new Row(CELLS);
        private final Row variables = new Row((MAX_CALLS + 1) * MAX_VARIABLES);
        private final Row backs = new Row(MAX_CALLS);
        private int fuel;
        private int first;
        private int second;
        private int inputsTaken;
        private int end = DONE;

        Run() {
            cells.fillWithZeros();
            variables.fillWithZeros();
        }

        void begin(int newFuel, int newFirst, int newSecond) {
            outputs.empty();
            cells.fillWithZeros();
            variables.fillWithZeros();
            backs.empty();
            fuel = newFuel;
            first = newFirst;
            second = newSecond;
            inputsTaken = 0;
            end = GOING;
        }

        boolean isGoing() {
            return end == GOING;
        }

        int end() {
            return end;
        }

        int fuel() {
            return fuel;
        }

        int outputCount() {
            return outputs.size();
        }

        int output(int place) {
            return outputs.get(place);
        }

        int cell(int number) {
            return cells.get(number);
        }

        void stop(int how) {
            if (end == GOING) {
                end = how;
            }
        }

        /** Takes 1 fuel; tells whether the run goes on. */
        boolean takeFuel() {
            if (fuel < 1) {
                stop(FUEL);
            } else {
                fuel--;
            }
            return isGoing();
        }

        int input() {
            if (!takeFuel()) {
                return 0;
            }
            inputsTaken++;
            if (inputsTaken > 2) {
                stop(INPUT);
                return 0;
            }
            return inputsTaken == 1 ? first : second;
        }

        void put(int value) {
            if (outputs.size() >= MAX_OUTPUTS) {
                stop(OUTPUT);
            } else {
                outputs.add(value);
            }
        }

        void setCell(int number, int value) {
            if (number < 0 || number >= CELLS) {
                stop(CELL);
            } else {
                cells.set(number, value);
            }
        }

        int variable(int number) {
            return variables.get(backs.size() * MAX_VARIABLES + number);
        }

        void setVariable(int number, int value) {
            variables.set(backs.size() * MAX_VARIABLES + number, value);
        }

        /** Begins a call that comes back to a place; tells whether the run goes on. */
        boolean enter(int back) {
            if (!takeFuel()) {
                return false;
            }
            if (backs.size() >= MAX_CALLS) {
                stop(DEPTH);
                return false;
            }
            backs.add(back);
            for (int i = 0; i < MAX_VARIABLES; i++) {
                setVariable(i, 0);
            }
            return true;
        }

        /** Ends a call; tells where to go on. */
        int leave() {
            return backs.takeLast();
        }

        /** What comes of a mark with one operand. */
        int one(int mark, int value) {
            if (!takeFuel()) {
                return 0;
            }
            switch (mark) {
                case Tokens.NEGATE:
                    return intOf(-(long) value);
                case Tokens.NOT:
                    return value == 0 ? 1 : 0;
                default:
                    if (value < 0 || value >= CELLS) {
                        stop(CELL);
                    }
                    return cells.get(value);
            }
        }

        /** What comes of a mark with two operands, but for && and ||. */
        int two(int mark, int left, int right) {
            if (!takeFuel()) {
                return 0;
            }
            switch (mark) {
                case Tokens.PLUS:
                    return intOf((long) left + right);
                case Tokens.MINUS:
                    return intOf((long) left - right);
                case Tokens.STAR:
                    return intOf((long) left * right);
                case Tokens.SLASH: case Tokens.PERCENT:
                    if (right == 0) {
                        stop(DIVISION);
                        return 0;
                    }
                    return intOf(mark == Tokens.SLASH ? (long) left / right : (long) left % right);
                case Tokens.LESS:
                    return left < right ? 1 : 0;
                case Tokens.LESS_OR_EQUAL:
                    return left <= right ? 1 : 0;
                case Tokens.MORE:
                    return left > right ? 1 : 0;
                case Tokens.MORE_OR_EQUAL:
                    return left >= right ? 1 : 0;
                case Tokens.EQUAL:
                    return left == right ? 1 : 0;
                default:
                    return left != right ? 1 : 0;
            }
        }

        private int intOf(long value) {
            if (value < LEAST || value > GREATEST) {
                stop(OVERFLOW);
                return 0;
            }
            return (int) value;
        }
    }

    /** Runs the codes of a program, one behind the other, with a stack of values. */
    private static final class Machine {
        static final int BEGIN = 0, PUSH = 1, LOAD = 2, STORE = 3, STORE_CELL = 4, READ = 5, PUT = 6, DROP = 7;
        static final int ONE = 8, TWO = 9, TRUTH = 10;
        // From here on the codes that may go elsewhere.
        static final int AND = 11, OR = 12, JUMP = 13, JUMP_IF_ZERO = 14, CALL = 15, RETURN = 16, STOP = 17;

        private final Row values = new Row(MAX_WAITING);
        private Program program;
        private Run run;
        private int at;

        Machine(Program program, Run run) {
            this.program = program;
            this.run = run;
        }

        void run(Program newProgram, Run newRun, int fuel, int first, int second) {
            program = newProgram;
            run = newRun;
            run.begin(fuel, first, second);
            values.empty();
            at = 0;
            for (int i = 0; i < MAX_STEPS && run.isGoing(); i++) {
                int code = program.code(at);
                int operand = program.operand(at);
                at++;
                if (code < AND) {
                    compute(code, operand);
                } else {
                    go(code, operand);
                }
            }
        }

        private void compute(int code, int operand) {
            switch (code) {
                case BEGIN:
                    run.takeFuel();
                    break;
                case PUSH:
                    values.add(operand);
                    break;
                case LOAD:
                    values.add(run.variable(operand));
                    break;
                case STORE:
                    run.setVariable(operand, values.takeLast());
                    break;
                case STORE_CELL:
                    int value = values.takeLast();
                    run.setCell(values.takeLast(), value);
                    break;
                case READ:
                    values.add(run.input());
                    break;
                case PUT:
                    run.put(values.takeLast());
                    break;
                case DROP:
                    values.takeLast();
                    break;
                case ONE:
                    values.add(run.one(operand, values.takeLast()));
                    break;
                case TWO:
                    int right = values.takeLast();
                    values.add(run.two(operand, values.takeLast(), right));
                    break;
                default:
                    // TRUTH, of the right operand of && and ||.
                    values.add(values.takeLast() == 0 ? 0 : 1);
            }
        }

        private void go(int code, int operand) {
            switch (code) {
                case AND: case OR:
                    if (run.takeFuel()) {
                        decide(code == OR, operand);
                    }
                    break;
                case JUMP:
                    at = operand;
                    break;
                case JUMP_IF_ZERO:
                    at = values.takeLast() == 0 ? operand : at;
                    break;
                case CALL:
                    call(operand);
                    break;
                case RETURN:
                    at = run.leave();
                    break;
                default:
                    run.stop(DONE);
            }
        }

        private void decide(boolean deciding, int behind) {
            boolean left = values.takeLast() != 0;
            if (left == deciding) {
                values.add(left ? 1 : 0);
                at = behind;
            }
        }

        private void call(int def) {
            if (run.enter(at)) {
                for (int i = program.parameters(def) - 1; i >= 0; i--) {
                    run.setVariable(i, values.takeLast());
                }
                at = program.entry(def);
            }
        }
    }

    /** Runs a program in its text as it was read, token by token, with marks that wait. */
    private static final class Walker {
        private static final int STATEMENT = 0, OPERAND = 1, OPERATOR = 2;

        private final Row values = new Row(MAX_WAITING);
        // The tokens whose operands, arguments or expressions are not known yet.
        private final Row waiting = new Row(MAX_WAITING);
        private Program program;
        private Tokens tokens;
        private Run run;
        private int at;
        private int due;

        Walker(Program program, Run run) {
            this.program = program;
            this.tokens = program.tokens;
            this.run = run;
        }

        void run(Program newProgram, Run newRun, int fuel, int first, int second) {
            program = newProgram;
            tokens = newProgram.tokens;
            run = newRun;
            run.begin(fuel, first, second);
            values.empty();
            waiting.empty();
            at = 0;
            due = STATEMENT;
            for (int i = 0; i < MAX_STEPS && run.isGoing(); i++) {
                if (due == STATEMENT) {
                    statement();
                } else if (due == OPERAND) {
                    operand();
                } else {
                    operator();
                }
            }
        }

        private void statement() {
            switch (tokens.kinds.get(at)) {
                case Tokens.END:
                    run.stop(DONE);
                    break;
                case Tokens.BLOCK_END:
                    endBlock();
                    break;
                case Tokens.DEF:
                    at = tokens.values.get(at);
                    break;
                default:
                    if (run.takeFuel()) {
                        beginStatement();
                    }
            }
        }

        private void beginStatement() {
            waiting.add(at);
            due = OPERAND;
            if (tokens.kinds.get(at) == Tokens.VARIABLE) {
                at += 2;
            } else if (tokens.kinds.get(at) != Tokens.FUNCTION) {
                at++;
            }
        }

        private void endBlock() {
            int owner = tokens.values.get(at);
            switch (tokens.kinds.get(owner)) {
                case Tokens.WHILE:
                    at = owner;
                    break;
                case Tokens.DEF:
                    values.add(0);
                    endCall();
                    break;
                default:
                    at++;
                    if (tokens.kinds.get(at) == Tokens.ELSE) {
                        at = tokens.values.get(at + 1);
                    }
            }
        }

        private void operand() {
            switch (tokens.kinds.get(at)) {
                case Tokens.NUMERAL:
                    value(tokens.values.get(at));
                    break;
                case Tokens.VARIABLE:
                    value(run.variable(tokens.values.get(at)));
                    break;
                case Tokens.IN:
                    value(run.input());
                    break;
                case Tokens.FUNCTION:
                    waiting.add(at + 1);
                    at += 2;
                    if (tokens.kinds.get(at) == Tokens.CLOSE) {
                        call();
                    }
                    break;
                default:
                    // An opening ( or a mark with one operand.
                    waiting.add(at);
                    at++;
            }
        }

        private void value(int value) {
            values.add(value);
            at++;
            due = OPERATOR;
        }

        private void operator() {
            int kind = tokens.kinds.get(at);
            int level = Tokens.levelOf(kind);
            doWaitingMarks(level);
            if (!run.isGoing()) {
                return;
            }
            if (level == 0) {
                endExpression(kind);
            } else if (kind == Tokens.AND || kind == Tokens.OR) {
                decide(kind == Tokens.OR);
            } else {
                waiting.add(at);
                at++;
                due = OPERAND;
            }
        }

        /** Does the marks that bind as strongly as the level or stronger; all of them for 0. */
        private void doWaitingMarks(int level) {
            for (int i = waiting.size() - 1; i >= 0 && run.isGoing(); i--) {
                int mark = tokens.kinds.get(waiting.get(i));
                int markLevel = Tokens.levelOf(mark);
                if (markLevel == 0 || markLevel < level) {
                    return;
                }
                waiting.takeLast();
                int right = values.takeLast();
                if (mark == Tokens.AND || mark == Tokens.OR) {
                    values.add(right == 0 ? 0 : 1);
                } else if (markLevel == Tokens.OPERAND_LEVEL) {
                    values.add(run.one(mark, right));
                } else {
                    values.add(run.two(mark, values.takeLast(), right));
                }
            }
        }

        private void decide(boolean deciding) {
            if (!run.takeFuel()) {
                return;
            }
            boolean left = values.takeLast() != 0;
            if (left == deciding) {
                values.add(left ? 1 : 0);
                at = tokens.values.get(at);
            } else {
                waiting.add(at);
                at++;
                due = OPERAND;
            }
        }

        /** Comes to a token that ends an expression: what waits tells what it was for. */
        private void endExpression(int kind) {
            int token = waiting.last();
            if (kind == Tokens.COMMA || kind == Tokens.BECOMES) {
                at++;
                due = OPERAND;
            } else if (tokens.kinds.get(token) == Tokens.CALL) {
                call();
            } else {
                waiting.takeLast();
                if (tokens.kinds.get(token) == Tokens.OPEN) {
                    at++;
                } else {
                    due = STATEMENT;
                    endStatement(token, values.takeLast());
                }
            }
        }

        private void endStatement(int token, int value) {
            switch (tokens.kinds.get(token)) {
                case Tokens.VARIABLE:
                    run.setVariable(tokens.values.get(token), value);
                    at++;
                    break;
                case Tokens.TARGET:
                    run.setCell(values.takeLast(), value);
                    at++;
                    break;
                case Tokens.OUT:
                    run.put(value);
                    at++;
                    break;
                case Tokens.RETURN:
                    values.add(value);
                    endCall();
                    break;
                case Tokens.IF:
                    at = value != 0 ? at + 1 : otherBlock();
                    break;
                case Tokens.WHILE:
                    at = value != 0 ? at + 1 : tokens.values.get(at);
                    break;
                default:
                    // A call, whose value is for nothing.
                    at++;
            }
        }

        private int otherBlock() {
            int behind = tokens.values.get(at);
            return tokens.kinds.get(behind) == Tokens.ELSE ? behind + 2 : behind;
        }

        /** At the ) of a call. */
        private void call() {
            int def = tokens.values.get(waiting.takeLast() - 1);
            if (run.enter(at + 1)) {
                for (int i = program.parameters(def) - 1; i >= 0; i--) {
                    run.setVariable(i, values.takeLast());
                }
                at = program.block(def) + 1;
                due = STATEMENT;
            }
        }

        private void endCall() {
            at = run.leave();
            due = OPERATOR;
        }
    }

    /** A test of an exercise: weight, inputs, and the outputs that are expected. */
    private static final class Test {
        final int weight;
        final int first;
        final int second;
        private final int count;
        private final int one;
        private final int other;
        boolean isWithdrawn;

        Test(int weight, int first, int second, int count, int one, int other) {
            this.weight = weight;
            this.first = first;
            this.second = second;
            this.count = count;
            this.one = one;
            this.other = other;
        }

        boolean isPassedBy(Run run) {
            return run.end() == DONE && run.outputCount() == count
                    && (count < 1 || run.output(0) == one)
                    && (count < 2 || run.output(1) == other);
        }
    }

    /** An exercise with its tests. */
    private static final class Exercise {
        final int number;
        final int fuel;
        final int due;
        private final ArrayList<Test> tests = new ArrayList<>();

        Exercise(int number, int fuel, int due) {
            this.number = number;
            this.fuel = fuel;
            this.due = due;
        }

        void add(Test test) {
            tests.add(test);
        }

        int testCount() {
            return tests.size();
        }

        /** A test; null if there is no such one. */
        Test test(int number) {
            return number >= 0 && number < tests.size() ? tests.get(number) : null;
        }

        /** The points for a row of 1 for each test that is passed and 0 for each other one. */
        int pointsFor(Row passed) {
            int all = 0;
            int got = 0;
            for (int i = 0; i < tests.size(); i++) {
                Test test = tests.get(i);
                if (!test.isWithdrawn) {
                    all += test.weight;
                    got += passed.get(i) == 1 ? test.weight : 0;
                }
            }
            return all == 0 ? 0 : 100 * got / all;
        }
    }

    /** An answer: a program handed in, with what came of it for each test of its exercise. */
    private static final class Answer {
        final int pupil;
        final Exercise exercise;
        final Program program;
        private final int day;
        final Row ends = new Row(MAX_TESTS);
        final Row passed = new Row(MAX_TESTS);
        // How many parts it has in common with each answer up to itself.
        final Row commons = new Row(MAX_ANSWERS);
        boolean isStruck;

        Answer(int pupil, Exercise exercise, int day, Program program) {
            this.pupil = pupil;
            this.exercise = exercise;
            this.day = day;
            this.program = program;
        }

        int markNow() {
            return markFor(exercise.pointsFor(passed));
        }

        int markFor(int points) {
            if (isStruck) {
                return 0;
            }
            int late = Math.max(0, day - exercise.due);
            int less = Math.min(MAX_PERCENT, PERCENT_A_DAY * late);
            return points * (100 - less) / 100;
        }
    }
}
