import java.util.ArrayList;
import java.util.HashMap;
import java.util.LinkedHashMap;
import java.util.List;
import java.util.Map;
import java.util.Set;

/**
 * The document once more, in another way: a tree of objects with exceptions for faults and ends, and
 * everything that is asked found anew. The random tests hold the program against it.
 */
final class Model {
    static final Set<String> KEYWORDS = Set.of("if", "else", "while", "out", "in", "def", "return");
    static final String[] LEVELS = {"", " || ", " && ", " == != ", " < <= > >= ", " + - ", " * / % "};
    static final String MARKS = " + - * / % < <= > >= == != && || ! = ( ) { } , ; # ";

    /** A fault of a text. */
    static final class Fault extends RuntimeException {
        final int kind;
        final int place;

        Fault(int kind, int place) {
            super(null, null, false, false);
            this.kind = kind;
            this.place = place;
        }
    }

    /** The end of a run. */
    static final class End extends RuntimeException {
        final int how;

        End(int how) {
            super(null, null, false, false);
            this.how = how;
        }
    }

    /** The way out of a def. */
    static final class Back extends RuntimeException {
        final int value;

        Back(int value) {
            super(null, null, false, false);
            this.value = value;
        }
    }

    record Token(String text, int place) { }

    interface Expression {
        int value(Doing run, Map<String, Integer> variables);
    }

    interface Statement {
        void run(Doing run, Map<String, Integer> variables);
    }

    static final class Def {
        final List<String> parameters = new ArrayList<>();
        List<Statement> block;
    }

    record Call(String name, int place, int[] count) { }

    /** A run. */
    static final class Doing {
        final List<Integer> outputs = new ArrayList<>();
        final int[] cells = new int[32];
        final List<Integer> inputs = new ArrayList<>();
        int fuel;
        int depth;
        int end;

        void fuel() {
            if (fuel == 0) {
                throw new End(ProgramSchool.FUEL);
            }
            fuel--;
        }

        int cell(int number) {
            if (number < 0 || number > 31) {
                throw new End(ProgramSchool.CELL);
            }
            return number;
        }
    }

    /** A text that is read. */
    static final class Read {
        final String text;
        int next;
        int level;
        boolean inBlockOfDef;
        final List<String> outer = new ArrayList<>();
        List<String> names = outer;
        final Map<String, Def> defs = new LinkedHashMap<>();
        final List<Call> calls = new ArrayList<>();
        // The tokens as they are written for likeness, by their order.
        final List<String> written = new ArrayList<>();
        final List<String> parts = new ArrayList<>();
        final List<Statement> statements = new ArrayList<>();
        int fault = ProgramSchool.NO_FAULT;
        int place = ProgramSchool.NONE;

        Read(String text) {
            this.text = text;
            try {
                while (peek() != null) {
                    statements.add(statement());
                }
                for (Call call : calls) {
                    Def def = defs.get(call.name());
                    if (def == null) {
                        throw new Fault(ProgramSchool.UNKNOWN, call.place());
                    }
                    if (def.parameters.size() != call.count()[0]) {
                        throw new Fault(ProgramSchool.COUNT, call.place());
                    }
                }
            } catch (Fault f) {
                fault = f.kind;
                place = f.place;
            }
        }

        int skip(int from) {
            while (from < text.length() && (text.charAt(from) == ' ' || text.charAt(from) == '\n')) {
                from++;
            }
            return from;
        }

        /** The token at a place, null at the end. */
        Token tokenAt(int from) {
            int start = skip(from);
            if (start >= text.length()) {
                return null;
            }
            int end = start;
            char sign = text.charAt(start);
            if (sign >= '0' && sign <= '9') {
                while (end < text.length() && text.charAt(end) >= '0' && text.charAt(end) <= '9') {
                    end++;
                }
                String digits = text.substring(start, end);
                if (new java.math.BigInteger(digits).compareTo(java.math.BigInteger.valueOf(Integer.MAX_VALUE)) > 0) {
                    throw new Fault(ProgramSchool.NUMBER, start);
                }
                return new Token(digits, start);
            }
            if (sign >= 'a' && sign <= 'z') {
                while (end < text.length() && text.charAt(end) >= 'a' && text.charAt(end) <= 'z') {
                    end++;
                }
                return new Token(text.substring(start, end), start);
            }
            for (int size = 2; size >= 1; size--) {
                if (start + size <= text.length() && MARKS.contains(" " + text.substring(start, start + size) + " ")
                        && !text.substring(start, start + size).contains(" ")) {
                    return new Token(text.substring(start, start + size), start);
                }
            }
            throw new Fault(ProgramSchool.SIGN, start);
        }

        Token peek() {
            return tokenAt(next);
        }

        boolean sees(String mark) {
            Token token = peek();
            return token != null && token.text().equals(mark);
        }

        Fault unexpected() {
            Token token = peek();
            return new Fault(ProgramSchool.UNEXPECTED, token == null ? text.length() : token.place());
        }

        void take(String as) {
            Token token = peek();
            written.add(as);
            next = token.place() + token.text().length();
        }

        void expect(String mark) {
            if (!sees(mark)) {
                throw unexpected();
            }
            take(mark);
        }

        static boolean isName(Token token) {
            return token != null && Character.isLetter(token.text().charAt(0)) && !KEYWORDS.contains(token.text());
        }

        void open(String mark) {
            if (!sees(mark)) {
                throw unexpected();
            }
            if (level == 8) {
                throw new Fault(ProgramSchool.NESTED, peek().place());
            }
            level++;
            take(mark);
        }

        boolean isCall() {
            Token name = peek();
            int behind = skip(name.place() + name.text().length());
            return behind < text.length() && text.charAt(behind) == '(';
        }

        String variable() {
            Token name = peek();
            if (!names.contains(name.text())) {
                if (names.size() == 8) {
                    throw new Fault(ProgramSchool.NAMES, name.place());
                }
                names.add(name.text());
            }
            take("v");
            return name.text();
        }

        Statement statement() {
            int start = written.size();
            Token token = peek();
            Statement made = statement(token);
            parts.add(String.join(" ", written.subList(start, written.size())));
            return made;
        }

        Statement statement(Token token) {
            switch (token.text()) {
                case "if":
                    return ifStatement();
                case "while":
                    return whileStatement();
                case "def":
                    return defStatement();
                case "out": {
                    take("out");
                    Expression value = expression(1);
                    expect(";");
                    return (run, variables) -> {
                        run.fuel();
                        int out = value.value(run, variables);
                        if (run.outputs.size() == 8) {
                            throw new End(ProgramSchool.OUTPUT);
                        }
                        run.outputs.add(out);
                    };
                }
                case "return": {
                    if (!inBlockOfDef) {
                        throw unexpected();
                    }
                    take("return");
                    Expression value = expression(1);
                    expect(";");
                    return (run, variables) -> {
                        run.fuel();
                        throw new Back(value.value(run, variables));
                    };
                }
                case "#":
                    return cellStatement();
                default:
                    if (!isName(token)) {
                        throw unexpected();
                    }
                    return nameStatement();
            }
        }

        Statement cellStatement() {
            open("#");
            Expression cell = operand();
            level--;
            expect("=");
            Expression value = expression(1);
            expect(";");
            return (run, variables) -> {
                run.fuel();
                int number = cell.value(run, variables);
                int content = value.value(run, variables);
                run.cells[run.cell(number)] = content;
            };
        }

        Statement nameStatement() {
            if (isCall()) {
                Expression call = call();
                expect(";");
                return (run, variables) -> {
                    run.fuel();
                    call.value(run, variables);
                };
            }
            String name = variable();
            expect("=");
            Expression value = expression(1);
            expect(";");
            return (run, variables) -> {
                run.fuel();
                variables.put(name, value.value(run, variables));
            };
        }

        Statement ifStatement() {
            take("if");
            Expression asked = expression(1);
            List<Statement> then = block();
            List<Statement> otherwise = new ArrayList<>();
            if (sees("else")) {
                take("else");
                otherwise = block();
            }
            List<Statement> other = otherwise;
            return (run, variables) -> {
                run.fuel();
                for (Statement each : asked.value(run, variables) != 0 ? then : other) {
                    each.run(run, variables);
                }
            };
        }

        Statement whileStatement() {
            take("while");
            Expression asked = expression(1);
            List<Statement> block = block();
            return (run, variables) -> {
                while (true) {
                    run.fuel();
                    if (asked.value(run, variables) == 0) {
                        return;
                    }
                    for (Statement each : block) {
                        each.run(run, variables);
                    }
                }
            };
        }

        Statement defStatement() {
            if (level > 0) {
                throw unexpected();
            }
            take("def");
            Token name = peek();
            if (!isName(name)) {
                throw unexpected();
            }
            if (defs.containsKey(name.text())) {
                throw new Fault(ProgramSchool.DOUBLE, name.place());
            }
            Def def = new Def();
            defs.put(name.text(), def);
            take("f");
            names = new ArrayList<>();
            open("(");
            if (!sees(")")) {
                parameter(def);
                while (sees(",")) {
                    take(",");
                    parameter(def);
                }
            }
            expect(")");
            level--;
            inBlockOfDef = true;
            def.block = block();
            inBlockOfDef = false;
            names = outer;
            return (run, variables) -> { };
        }

        void parameter(Def def) {
            Token name = peek();
            if (!isName(name)) {
                throw unexpected();
            }
            if (def.parameters.contains(name.text())) {
                throw new Fault(ProgramSchool.DOUBLE, name.place());
            }
            def.parameters.add(variable());
        }

        List<Statement> block() {
            List<Statement> block = new ArrayList<>();
            open("{");
            while (!sees("}")) {
                if (peek() == null) {
                    throw unexpected();
                }
                block.add(statement());
            }
            take("}");
            level--;
            return block;
        }

        Expression expression(int own) {
            if (own == 7) {
                return operand();
            }
            Expression value = expression(own + 1);
            while (peek() != null && LEVELS[own].contains(" " + peek().text() + " ")) {
                String mark = peek().text();
                take(mark);
                value = joined(mark, value, expression(own + 1));
            }
            return value;
        }

        static Expression joined(String mark, Expression left, Expression right) {
            return (run, variables) -> {
                int a = left.value(run, variables);
                if (mark.equals("&&") || mark.equals("||")) {
                    run.fuel();
                    if (mark.equals("&&") != (a != 0)) {
                        return a != 0 ? 1 : 0;
                    }
                    return right.value(run, variables) != 0 ? 1 : 0;
                }
                int b = right.value(run, variables);
                run.fuel();
                return result(mark, a, b);
            };
        }

        static int result(String mark, int a, int b) {
            try {
                switch (mark) {
                    case "+": return Math.addExact(a, b);
                    case "-": return Math.subtractExact(a, b);
                    case "*": return Math.multiplyExact(a, b);
                    case "==": return a == b ? 1 : 0;
                    case "!=": return a != b ? 1 : 0;
                    case "<": return a < b ? 1 : 0;
                    case "<=": return a <= b ? 1 : 0;
                    case ">": return a > b ? 1 : 0;
                    case ">=": return a >= b ? 1 : 0;
                    default:
                        if (b == 0) {
                            throw new End(ProgramSchool.DIVISION);
                        }
                        if (mark.equals("/") && a == Integer.MIN_VALUE && b == -1) {
                            throw new End(ProgramSchool.OVERFLOW);
                        }
                        return mark.equals("/") ? a / b : a % b;
                }
            } catch (ArithmeticException e) {
                throw new End(ProgramSchool.OVERFLOW);
            }
        }

        Expression operand() {
            Token token = peek();
            if (token == null) {
                throw unexpected();
            }
            String text = token.text();
            if (text.equals("-") || text.equals("!") || text.equals("#")) {
                open(text);
                Expression operand = operand();
                level--;
                return (run, variables) -> {
                    int value = operand.value(run, variables);
                    run.fuel();
                    if (text.equals("#")) {
                        return run.cells[run.cell(value)];
                    }
                    return text.equals("!") ? value == 0 ? 1 : 0 : result("-", 0, value);
                };
            }
            if (Character.isDigit(text.charAt(0))) {
                take("0");
                int value = Integer.parseInt(text);
                return (run, variables) -> value;
            }
            if (text.equals("in")) {
                take("in");
                return (run, variables) -> {
                    run.fuel();
                    if (run.inputs.isEmpty()) {
                        throw new End(ProgramSchool.INPUT);
                    }
                    return run.inputs.remove(0);
                };
            }
            if (text.equals("(")) {
                open("(");
                Expression inside = expression(1);
                expect(")");
                level--;
                return inside;
            }
            if (!isName(token)) {
                throw unexpected();
            }
            if (isCall()) {
                return call();
            }
            String name = variable();
            return (run, variables) -> variables.getOrDefault(name, 0);
        }

        Expression call() {
            Token name = peek();
            int[] count = new int[1];
            calls.add(new Call(name.text(), name.place(), count));
            take("f");
            open("(");
            List<Expression> arguments = new ArrayList<>();
            if (!sees(")")) {
                arguments.add(expression(1));
                while (sees(",")) {
                    take(",");
                    arguments.add(expression(1));
                }
            }
            expect(")");
            level--;
            count[0] = arguments.size();
            return (run, variables) -> {
                List<Integer> values = new ArrayList<>();
                for (Expression argument : arguments) {
                    values.add(argument.value(run, variables));
                }
                run.fuel();
                return called(run, defs.get(name.text()), values);
            };
        }

        static int called(Doing run, Def def, List<Integer> values) {
            if (run.depth == 10) {
                throw new End(ProgramSchool.DEPTH);
            }
            Map<String, Integer> own = new HashMap<>();
            for (int i = 0; i < values.size(); i++) {
                own.put(def.parameters.get(i), values.get(i));
            }
            run.depth++;
            int value = 0;
            try {
                for (Statement each : def.block) {
                    each.run(run, own);
                }
            } catch (Back back) {
                value = back.value;
            }
            run.depth--;
            return value;
        }

        Doing run(int fuel, int first, int second) {
            Doing run = new Doing();
            run.fuel = fuel;
            run.inputs.add(first);
            run.inputs.add(second);
            Map<String, Integer> variables = new HashMap<>();
            try {
                for (Statement each : statements) {
                    each.run(run, variables);
                }
                run.end = ProgramSchool.DONE;
            } catch (End end) {
                run.end = end.how;
            }
            return run;
        }

        int common(Read other) {
            List<String> free = new ArrayList<>(other.parts);
            int count = 0;
            for (String part : parts) {
                count += free.remove(part) ? 1 : 0;
            }
            return count;
        }
    }

    static final class Test {
        int weight;
        int first;
        int second;
        List<Integer> expected;
        boolean withdrawn;
    }

    static final class Exercise {
        int fuel;
        int due;
        final List<Test> tests = new ArrayList<>();
    }

    static final class Answer {
        int pupil;
        int exercise;
        int day;
        Read program;
        boolean struck;
    }

    private String draft = "";
    private Read read = new Read("");
    private Doing trial = new Doing();
    private final List<Exercise> exercises = new ArrayList<>();
    private final List<Answer> answers = new ArrayList<>();
    private int today;

    private void text(String text) {
        draft = text;
        read = new Read(text);
    }

    int write(long signs) {
        StringBuilder added = new StringBuilder();
        for (long rest = signs, i = 0; i < 8; i++, rest >>>= 8) {
            int sign = (int) (rest & 255);
            argument(sign == 0 || sign == 10 || sign >= 32 && sign <= 126);
            if (sign != 0) {
                added.append((char) sign);
            }
        }
        if (draft.length() + added.length() > 300) {
            return ProgramSchool.NONE;
        }
        text(draft + added);
        return draft.length();
    }

    int wipe() {
        int length = draft.length();
        text("");
        return length;
    }

    int erase(int count) {
        argument(count >= 1 && count <= draft.length());
        text(draft.substring(0, draft.length() - count));
        return draft.length();
    }

    int length() {
        return draft.length();
    }

    int signAt(int place) {
        index(place, draft.length());
        return draft.charAt(place);
    }

    int fault() {
        return read.fault;
    }

    int faultPlace() {
        return read.place;
    }

    int draftParts() {
        state(read.fault == ProgramSchool.NO_FAULT);
        return read.parts.size();
    }

    int trial(int fuel, int first, int second) {
        argument(fuel >= 0 && fuel <= 5000);
        state(read.fault == ProgramSchool.NO_FAULT);
        trial = read.run(fuel, first, second);
        return trial.end;
    }

    int outputs() {
        return trial.outputs.size();
    }

    int outputAt(int place) {
        index(place, trial.outputs.size());
        return trial.outputs.get(place);
    }

    int fuelLeft() {
        return trial.fuel;
    }

    int cellAt(int cell) {
        index(cell, 32);
        return trial.cells[cell];
    }

    int addExercise(int fuel, int due) {
        argument(fuel >= 1 && fuel <= 2000 && due >= today && due <= 1000);
        state(exercises.size() < 4);
        Exercise added = new Exercise();
        added.fuel = fuel;
        added.due = due;
        exercises.add(added);
        return exercises.size() - 1;
    }

    int addTest(int exercise, int weight, int first, int second, int count, int one, int other) {
        index(exercise, exercises.size());
        argument(weight >= 1 && weight <= 10 && count >= 0 && count <= 2);
        List<Test> tests = exercises.get(exercise).tests;
        state(tests.size() < 8);
        Test test = new Test();
        test.weight = weight;
        test.first = first;
        test.second = second;
        test.expected = List.of(one, other).subList(0, count);
        tests.add(test);
        return tests.size() - 1;
    }

    int withdraw(int exercise, int test) {
        index(exercise, exercises.size());
        index(test, exercises.get(exercise).tests.size());
        Test withdrawn = exercises.get(exercise).tests.get(test);
        state(!withdrawn.withdrawn);
        List<Integer> before = new ArrayList<>();
        for (int i = 0; i < answers.size(); i++) {
            before.add(mark(i));
        }
        withdrawn.withdrawn = true;
        int changed = 0;
        for (int i = 0; i < answers.size(); i++) {
            changed += mark(i) != before.get(i) ? 1 : 0;
        }
        return changed;
    }

    int pass(int days) {
        argument(days >= 1 && days <= 100);
        state(today + days <= 1000);
        today += days;
        return today;
    }

    int today() {
        return today;
    }

    int hand(int pupil, int exercise) {
        index(pupil, 6);
        index(exercise, exercises.size());
        state(read.fault == ProgramSchool.NO_FAULT && answers.size() < 30);
        Answer answer = new Answer();
        answer.pupil = pupil;
        answer.exercise = exercise;
        answer.day = today;
        answer.program = new Read(draft);
        answers.add(answer);
        return answers.size() - 1;
    }

    int answers() {
        return answers.size();
    }

    private Doing run(int answer, int test) {
        Answer asked = answers.get(answer);
        Exercise exercise = exercises.get(asked.exercise);
        Test input = exercise.tests.get(test);
        return asked.program.run(exercise.fuel, input.first, input.second);
    }

    private void answerAndTest(int answer, int test) {
        index(answer, answers.size());
        index(test, exercises.get(answers.get(answer).exercise).tests.size());
    }

    int passes(int answer, int test) {
        answerAndTest(answer, test);
        Doing run = run(answer, test);
        Test asked = exercises.get(answers.get(answer).exercise).tests.get(test);
        return run.end == ProgramSchool.DONE && run.outputs.equals(asked.expected) ? 1 : 0;
    }

    int endOf(int answer, int test) {
        answerAndTest(answer, test);
        return run(answer, test).end;
    }

    int points(int answer) {
        index(answer, answers.size());
        List<Test> tests = exercises.get(answers.get(answer).exercise).tests;
        int got = 0;
        int all = 0;
        for (int i = 0; i < tests.size(); i++) {
            if (!tests.get(i).withdrawn) {
                all += tests.get(i).weight;
                got += tests.get(i).weight * passes(answer, i);
            }
        }
        return all == 0 ? 0 : 100 * got / all;
    }

    int mark(int answer) {
        index(answer, answers.size());
        Answer asked = answers.get(answer);
        int late = Math.max(0, asked.day - exercises.get(asked.exercise).due);
        return asked.struck ? 0 : points(answer) * (100 - Math.min(50, 10 * late)) / 100;
    }

    int best(int pupil, int exercise) {
        index(pupil, 6);
        index(exercise, exercises.size());
        int best = ProgramSchool.NONE;
        for (int i = 0; i < answers.size(); i++) {
            if (answers.get(i).pupil == pupil && answers.get(i).exercise == exercise) {
                best = Math.max(best, mark(i));
            }
        }
        return best;
    }

    int passed(int exercise, int test) {
        index(exercise, exercises.size());
        index(test, exercises.get(exercise).tests.size());
        int count = 0;
        for (int i = 0; i < answers.size(); i++) {
            count += answers.get(i).exercise == exercise ? passes(i, test) : 0;
        }
        return count;
    }

    int parts(int answer) {
        index(answer, answers.size());
        return answers.get(answer).program.parts.size();
    }

    int common(int answer, int other) {
        index(answer, answers.size());
        index(other, answers.size());
        return answers.get(answer).program.common(answers.get(other).program);
    }

    int likeness(int answer, int other) {
        int common = common(answer, other);
        int both = parts(answer) + parts(other);
        return both == 0 ? 0 : 200 * common / both;
    }

    private boolean canAccuse(int answer, int other) {
        return other < answer && answers.get(answer).pupil != answers.get(other).pupil
                && answers.get(answer).exercise == answers.get(other).exercise
                && likeness(answer, other) >= 80 && common(answer, other) >= 3;
    }

    int accuse(int answer, int other) {
        index(answer, answers.size());
        index(other, answers.size());
        state(!answers.get(answer).struck && canAccuse(answer, other));
        int mark = mark(answer);
        answers.get(answer).struck = true;
        return mark;
    }

    int clear(int answer) {
        index(answer, answers.size());
        state(answers.get(answer).struck);
        answers.get(answer).struck = false;
        return mark(answer);
    }

    int doubt(int answer) {
        index(answer, answers.size());
        for (int i = 0; i < answer; i++) {
            if (canAccuse(answer, i)) {
                return i;
            }
        }
        return ProgramSchool.NONE;
    }

    private static void index(int place, int size) {
        if (place < 0 || place >= size) {
            throw new IndexOutOfBoundsException();
        }
    }

    private static void argument(boolean isFine) {
        if (!isFine) {
            throw new IllegalArgumentException();
        }
    }

    private static void state(boolean isFine) {
        if (!isFine) {
            throw new IllegalStateException();
        }
    }
}
