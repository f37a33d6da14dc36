/** The bounds of the desk: the sentences of "The desk" on parts and accusations, and of promises 30 to 35. */
final class DeskBounds {
    private static final int NONE = ProgramSchool.NONE;
    private static final int LEAST = Schools.LEAST, GREATEST = Schools.GREATEST;
    private static final int MOST_ANSWERS = 30;
    /** Three parts, which are enough for an accusation. */
    private static final String THREE = "a=1;#1=2;out 3;";

    /** A call for two answers. */
    private interface OfTwo {
        int get(ProgramSchool school, int answer, int other);
    }

    private DeskBounds() {
    }

    static void test() {
        terms();
        Sentence.section("Promise 30: parts");
        Sentence.holds("Returns how many parts an answer has.", DeskBounds::countedParts);
        Sentence.holds("- `answer`: an answer", DeskBounds::partsOfEach);
        Sentence.holds("Throws `IndexOutOfBoundsException` if there is no such answer", () -> noSuchAnswer((school, answer, other) -> school.parts(answer), false));
        Sentence.section("Promise 31: common");
        Sentence.holds("Returns how many parts two answers have in common.", DeskBounds::common);
        ofTwo(ProgramSchool::common, 3);
        Sentence.section("Promise 32: likeness");
        Sentence.holds("Returns the likeness of two answers.", DeskBounds::likeness);
        ofTwo(ProgramSchool::likeness, 100);
        Sentence.holds("Returns 0 to 100.", DeskBounds::likenessFrom0To100);
        accuse();
        Sentence.section("Promise 34: clear");
        Sentence.holds("Clears an answer.", DeskBounds::cleared);
        Sentence.holds("- `answer`: an answer", DeskBounds::clearOfEach);
        Sentence.holds("Returns its mark then.", DeskBounds::markThen);
        Sentence.holds("Throws `IndexOutOfBoundsException` if there is no such answer", () -> noSuchAnswer((school, answer, other) -> school.clear(answer), false));
        Sentence.holds("Throws `IllegalStateException` if it is not struck", DeskBounds::notStruck);
        Sentence.section("Promise 35: doubt");
        Sentence.holds("Returns the earliest answer because of which an answer could be accused.", DeskBounds::earliest);
        Sentence.holds("- `answer`: an answer, struck or not", DeskBounds::doubtOfStruck);
        Sentence.holds("Returns that answer; NONE.", DeskBounds::doubtOrNone);
        Sentence.holds("Throws `IndexOutOfBoundsException` if there is no such answer", () -> noSuchAnswer((school, answer, other) -> school.doubt(answer), false));
    }

    private static void terms() {
        Sentence.section("The desk");
        Sentence.holds("The parts of an answer are all its statements, also those in blocks, and defs.", DeskBounds::countedParts);
        Sentence.holds("Two parts are alike if they are the same, written token by token,", DeskBounds::tokenByToken);
        Sentence.holds("when each variable is written as v, each name of a def as f, and each number as 0.", DeskBounds::writtenAs);
        Sentence.holds("The likeness of two answers is 200 times how many parts they have in common", DeskBounds::likeness);
        Sentence.holds("(of parts that are alike to one another as many as the answer has that has fewer of them),", DeskBounds::common);
        Sentence.holds("divided by the parts of both together, rounded down;", DeskBounds::likenessRounded);
        Sentence.holds("0 if both have none.", DeskBounds::likenessOfNothing);
        Sentence.holds("An answer can be accused because of an earlier one (with a lower number),", DeskBounds::lowerNumber);
        Sentence.holds("of another pupil,", DeskBounds::otherPupil);
        Sentence.holds("to the same exercise,", DeskBounds::sameExercise);
        Sentence.holds("if their likeness is 80 or more,", DeskBounds::likenessOf80);
        Sentence.holds("and they have 3 parts in common or more;", DeskBounds::threeParts);
        Sentence.holds("it is struck by that, until it is cleared.", DeskBounds::struckUntilCleared);
        constants();
    }

    private static void constants() {
        Sentence.holds("The constants: `NONE = -1`: There is none.", () -> Check.due("NONE", -1, ProgramSchool.NONE));
        Sentence.holds("`NO_FAULT = 0, SIGN = 1, NUMBER = 2, UNEXPECTED = 3, NESTED = 4, NAMES = 5, DOUBLE = 6, UNKNOWN = 7, COUNT = 8`: Faults of a text.", () -> {
            int[] faults = {ProgramSchool.NO_FAULT, ProgramSchool.SIGN, ProgramSchool.NUMBER, ProgramSchool.UNEXPECTED, ProgramSchool.NESTED,
                ProgramSchool.NAMES, ProgramSchool.DOUBLE, ProgramSchool.UNKNOWN, ProgramSchool.COUNT};
            for (int i = 0; i < faults.length; i++) {
                Check.due("the fault " + i, i, faults[i]);
            }
        });
        Sentence.holds("`DONE = 0, FUEL = 1, OVERFLOW = 2, DIVISION = 3, CELL = 4, INPUT = 5, OUTPUT = 6, DEPTH = 7`: Ends of runs.", () -> {
            int[] ends = {ProgramSchool.DONE, ProgramSchool.FUEL, ProgramSchool.OVERFLOW, ProgramSchool.DIVISION, ProgramSchool.CELL,
                ProgramSchool.INPUT, ProgramSchool.OUTPUT, ProgramSchool.DEPTH};
            for (int i = 0; i < ends.length; i++) {
                Check.due("the end " + i, i, ends[i]);
            }
        });
    }

    private static void ofTwo(OfTwo call, int ofSame) {
        Sentence.holds("- `answer`: an answer", () -> everyTwo(call));
        Sentence.holds("- `other`: an answer, perhaps the same, of whatever exercise", () -> ofWhatever(call, ofSame));
        Sentence.holds("Throws `IndexOutOfBoundsException` if there is no such answer or other", () -> noSuchAnswer(call, true));
    }

    private static void accuse() {
        Sentence.section("Promise 33: accuse");
        Sentence.holds("Accuses an answer because of another one.", DeskBounds::struckUntilCleared);
        Sentence.holds("- `answer`: an answer", DeskBounds::accuseEach);
        Sentence.holds("- `other`: an answer", DeskBounds::accuseBecauseOfEach);
        Sentence.holds("Returns its mark until now.", DeskBounds::markUntilNow);
        Sentence.holds("Throws `IndexOutOfBoundsException` if there is no such answer or other", () -> noSuchAnswer(ProgramSchool::accuse, true));
        Sentence.holds("Throws `IllegalStateException` if it is struck,", DeskBounds::struckAlready);
        Sentence.holds("or cannot be accused because of that", DeskBounds::cannotBeAccused);
    }

    private static void countedParts() {
        String[] texts = {"", "a=1;", "def f(){}", "if 1{}else{}", "if 1{out 1;}else{out 2;out 3;}", "while 1{while 1{f();}}def f(){return 1;}",
            "a=1;".repeat(75), "#1=1;".repeat(60), "if 1{".repeat(8) + "a=1;" + "}".repeat(8), "if (1)+f(2){}def f(a){}"};
        int[] parts = {0, 1, 1, 1, 4, 5, 75, 60, 9, 2};
        ProgramSchool school = Schools.handed(texts);
        for (int i = 0; i < texts.length; i++) {
            Check.due("parts of " + texts[i], parts[i], school.parts(i));
            Check.due("common with itself of " + texts[i], parts[i], school.common(i, i));
        }
    }

    /** How many parts two texts have in common, whichever is the earlier one. */
    private static void pair(String one, String other, int common) {
        ProgramSchool school = Schools.handed(one, other, one);
        Check.due("common of " + one + " and " + other, common, school.common(0, 1));
        Check.due("common of " + other + " and " + one, common, school.common(1, 0));
        Check.due("common of " + other + " and a later " + one, common, school.common(1, 2));
        Check.due("likeness of " + one + " and " + other, likeness(school, common), school.likeness(0, 1));
        Check.due("likeness of " + other + " and " + one, likeness(school, common), school.likeness(1, 0));
    }

    private static int likeness(ProgramSchool school, int common) {
        int both = school.parts(0) + school.parts(1);
        return both == 0 ? 0 : 200 * common / both;
    }

    private static void tokenByToken() {
        pair("a=1;", " a\n= 1 ;", 1);
        pair("a=1;", "a=(1);", 0);
        pair("a=1;", "a=-1;", 0);
        pair("a=1+1;", "a=1-1;", 0);
        pair("a=1+1;", "a=1+1+1;", 0);
        pair("a=1;", "#1=1;", 0);
        pair("out in;", "out 1;", 0);
        pair("out !1;", "out -1;", 0);
        pair("out 1<2;", "out 1<=2;", 0);
        pair("out 1>2;", "out 1>=2;", 0);
        pair("out 1==2;", "out 1!=2;", 0);
        pair("out 1&&2;", "out 1||2;", 0);
        pair("out 1*2;", "out 1/2;", 0);
        pair("out 1%2;", "out 1/2;", 0);
        pair("if 1{}", "while 1{}", 0);
        pair("if 1{}", "if 1{}else{}", 0);
        pair("if 1{a=1;}", "if 1{out 1;}", 0);
        pair("if 1{a=1;}", "if 1{a=1;a=1;}", 1);
        pair("if 1{a=1;}else{}", "if 1{}else{a=1;}", 1);
        pair("def f(){}", "def f(a){}", 0);
        pair("def f(a){}", "def f(a,b){}", 0);
        pair("f(1,2);def f(a,b){}", "f((1),2);def f(a,b){}", 1);
    }

    private static void writtenAs() {
        pair("a=b;", "c=c;", 1);
        pair("abc=1;", "x=2147483647;", 1);
        pair("out 0;", "out 007;", 1);
        pair("a=1;", "a=a;", 0);
        pair("f();def f(){}", "gg();def gg(){}", 2);
        pair("f();def f(){}", "f=1;", 0);
        pair("f(1);def f(a){}", "g(2);def g(b){}", 2);
        pair("f(1);def f(a){}", "f(a);def f(a){}", 1);
        pair("def f(a,b){return a+b;}", "def g(x,y){return y+y;}", 2);
        pair("def f(f){return f(f);}", "def g(a){return g(a);}", 2);
        pair("out f(1);def f(a){}", "out (1);", 0);
        pair("out a;", "out f();def f(){}", 0);
        pair("if a{out 1;}", "if b{out 2;}", 2);
        pair("a=1-2;", "b=3-4;", 1);
        pair("#a=-b;", "#c=-d;", 1);
    }

    private static void common() {
        pair("", "", 0);
        pair("", "a=1;", 0);
        pair("a=1;", "b=2;", 1);
        pair("a=1;a=2;a=3;", "b=1;", 1);
        pair("a=1;a=2;out 1;out 2;out 3;", "out 4;b=1;b=2;b=3;", 3);
        pair("a=1;out 1;#1=1;", "#2=2;out 2;b=2;", 3);
        pair("a=1;".repeat(75), "b=2;".repeat(74), 74);
        pair("a=1;".repeat(75), "b=2;".repeat(75), 75);
        pair("a=1;out 1;".repeat(30), "out 1;".repeat(50), 30);
    }

    private static void likenessIs(int want, String one, String other) {
        ProgramSchool school = Schools.handed(one, other);
        Check.due("likeness of " + one + " and " + other, want, school.likeness(0, 1));
        Check.due("likeness of " + other + " and " + one, want, school.likeness(1, 0));
    }

    private static void likeness() {
        likenessIs(100, "a=1;", "b=2;");
        likenessIs(0, "a=1;", "out 1;");
        likenessIs(50, "a=1;out 1;", "a=1;#1=1;");
        likenessIs(80, "a=1;".repeat(2), "a=1;".repeat(3));
        likenessIs(40, "a=1;", "a=1;".repeat(4));
        likenessIs(100, "a=1;".repeat(75), "a=1;".repeat(75));
    }

    private static void likenessRounded() {
        // 66 and two thirds, 33 and a third, 57 and a seventh, 2 and six tenths, 99 and a third.
        likenessIs(66, "a=1;", "a=1;a=1;");
        likenessIs(33, "a=1;out 1;out 1;", "a=1;#1=1;#1=1;");
        likenessIs(57, "a=1;a=1;", "a=1;a=1;out 1;out 1;out 1;");
        likenessIs(2, "a=1;", "a=1;".repeat(75));
        likenessIs(99, "a=1;".repeat(75), "a=1;".repeat(74));
        likenessIs(79, "a=1;".repeat(75), "a=1;".repeat(49));
        likenessIs(80, "a=1;".repeat(75), "a=1;".repeat(50));
    }

    private static void likenessOfNothing() {
        ProgramSchool school = Schools.handed("", " \n", "a=1;");
        Check.due("both have none", 0, school.likeness(0, 1));
        Check.due("one with itself", 0, school.likeness(0, 0));
        Check.due("one has none", 0, school.likeness(0, 2));
        Check.due("the other has none", 0, school.likeness(2, 1));
        Check.due("common", 0, school.common(0, 1));
    }

    private static void likenessFrom0To100() {
        ProgramSchool school = Schools.handed("", "a=1;", "out 1;", "a=1;out 1;", "a=1;a=1;a=1;");
        int[][] due = {{0, 0, 0, 0, 0}, {0, 100, 0, 66, 50}, {0, 0, 100, 66, 0}, {0, 66, 66, 100, 40}, {0, 50, 0, 40, 100}};
        for (int i = 0; i < due.length; i++) {
            for (int j = 0; j < due.length; j++) {
                Check.due("likeness(" + i + ", " + j + ")", due[i][j], school.likeness(i, j));
            }
        }
    }

    private static void accusable(String what, boolean want, ProgramSchool school, int answer, int other) {
        Check.due(what, want ? "0" : "IllegalStateException", Check.answer(() -> school.accuse(answer, other)));
        if (want) {
            school.clear(answer);
        }
    }

    private static void lowerNumber() {
        ProgramSchool school = Schools.handed(THREE, THREE, THREE);
        accusable("the second because of the first", true, school, 1, 0);
        accusable("the first because of the second", false, school, 0, 1);
        accusable("the third because of the second", true, school, 2, 1);
        accusable("the second because of the third", false, school, 1, 2);
        accusable("the third because of the first", true, school, 2, 0);
        accusable("the second because of itself", false, school, 1, 1);
        Check.due("doubt of the first", NONE, school.doubt(0));
        Check.due("doubt of the second", 0, school.doubt(1));
        Check.due("doubt of the third", 0, school.doubt(2));
    }

    private static void otherPupil() {
        ProgramSchool school = Schools.due(0);
        for (int pupil : new int[] {2, 2, 3, 2, 0, 5, 5}) {
            Schools.hand(school, pupil, 0, THREE);
        }
        accusable("of the same pupil", false, school, 1, 0);
        accusable("of another pupil", true, school, 2, 0);
        accusable("of the first pupil, because of the other", true, school, 3, 2);
        accusable("of the first pupil, because of himself", false, school, 3, 1);
        accusable("of the pupil 0", true, school, 4, 3);
        accusable("of the pupil 5", true, school, 5, 4);
        accusable("of the pupil 5 because of himself", false, school, 6, 5);
        Check.due("doubt of the same pupil", NONE, school.doubt(1));
        Check.due("doubt past the same pupil", 2, school.doubt(3));
    }

    private static void sameExercise() {
        ProgramSchool school = new ProgramSchool();
        for (int i = 0; i < 4; i++) {
            school.addExercise(9, 0);
        }
        for (int exercise : new int[] {0, 1, 3, 0, 3}) {
            Schools.hand(school, school.answers(), exercise, THREE);
        }
        accusable("to another exercise", false, school, 1, 0);
        accusable("to another exercise", false, school, 2, 1);
        accusable("to the same exercise", true, school, 3, 0);
        accusable("to another exercise", false, school, 3, 2);
        accusable("to the same exercise", true, school, 4, 2);
        Check.due("doubt without one to the same exercise", NONE, school.doubt(2));
        Check.due("doubt of one to the last exercise", 2, school.doubt(4));
    }

    private static void likeTexts(int likeness, boolean want, String one, String other) {
        ProgramSchool school = Schools.handed(one, other);
        Check.due("likeness", likeness, school.likeness(0, 1));
        Check.due("doubt for a likeness of " + likeness, want ? 0 : NONE, school.doubt(1));
        accusable("with a likeness of " + likeness, want, school, 1, 0);
    }

    private static void likenessOf80() {
        String same = "a=1;";
        likeTexts(80, true, same.repeat(4), same.repeat(6));
        likeTexts(80, true, same.repeat(6), same.repeat(4));
        likeTexts(80, true, same.repeat(50), same.repeat(75));
        // 79 and 21 of 125 parts.
        likeTexts(79, false, same.repeat(49), same.repeat(75));
        likeTexts(79, false, same.repeat(75), same.repeat(49));
        likeTexts(80, true, same.repeat(50), same.repeat(74));
        likeTexts(80, true, same.repeat(4) + "out 1;", same.repeat(4) + "#1=1;");
        likeTexts(75, false, same.repeat(3) + "out 1;", same.repeat(3) + "#1=1;");
        likeTexts(100, true, same.repeat(75), same.repeat(75));
        likeTexts(0, false, same.repeat(3), "out 1;".repeat(3));
    }

    private static void threeParts() {
        String same = "a=1;";
        likeTexts(100, false, same, same);
        likeTexts(100, false, same.repeat(2), same.repeat(2));
        likeTexts(100, true, same.repeat(3), same.repeat(3));
        likeTexts(80, false, same.repeat(2), same.repeat(3));
        likeTexts(85, true, same.repeat(3), same.repeat(4));
        likeTexts(100, true, THREE, "out 1;#1=1;b=1;");
        likeTexts(0, false, "", "");
    }

    private static ProgramSchool three() {
        ProgramSchool school = Schools.handed(THREE, THREE, THREE);
        Schools.expect(school, 0, 1, 3);
        return school;
    }

    private static void struckUntilCleared() {
        ProgramSchool school = three();
        Check.due("mark before", 100, school.mark(1));
        school.accuse(1, 0);
        Check.due("mark of the struck one", 0, school.mark(1));
        Check.due("mark of the other one", 100, school.mark(0));
        Check.due("mark of a third one", 100, school.mark(2));
        Schools.expect(school, 0, 1, 3);
        school.withdraw(0, 0);
        school.pass(10);
        Schools.hand(school, 1, 0, THREE);
        Check.due("mark of the struck one, later", 0, school.mark(1));
        Check.due("mark of a new answer of its pupil", 100, school.mark(3));
        Check.due("best of its pupil", 100, school.best(1, 0));
        school.accuse(2, 1);
        Check.due("mark of another struck one", 0, school.mark(2));
        school.clear(1);
        Check.due("mark of the cleared one", 100, school.mark(1));
        Check.due("mark of the one that is struck still", 0, school.mark(2));
    }

    private static void partsOfEach() {
        ProgramSchool school = Schools.due(0);
        for (int i = 0; i < MOST_ANSWERS; i++) {
            school.hand(i % 6, 0);
            Texts.append(school, "a=1;");
        }
        for (int i = 0; i < MOST_ANSWERS; i++) {
            Check.due("parts(" + i + ")", i, school.parts(i));
        }
    }

    /** 30 answers, some of which are alike. */
    private static ProgramSchool thirty() {
        ProgramSchool school = Schools.due(0);
        for (int i = 0; i < MOST_ANSWERS; i++) {
            Schools.hand(school, i % 6, 0, i % 3 == 0 ? "a=1;" : "out 1;");
        }
        return school;
    }

    private static void everyTwo(OfTwo call) {
        ProgramSchool school = thirty();
        int same = call.get(school, 0, 0);
        Check.due("of the first one and itself", true, same == 1 || same == 100);
        for (int i : new int[] {0, 1, 2, 15, 28, 29}) {
            for (int j = 0; j < MOST_ANSWERS; j++) {
                int due = i % 3 == 0 == (j % 3 == 0) ? same : 0;
                Check.due("of " + i + " and " + j, due, call.get(school, i, j));
            }
        }
    }

    private static void ofWhatever(OfTwo call, int ofSame) {
        ProgramSchool school = Schools.due(0);
        school.addExercise(9, 0);
        Schools.hand(school, 0, 0, THREE);
        Schools.hand(school, 0, 1, THREE);
        Schools.hand(school, 0, 0, "#1=1;out 1;b=1;");
        Schools.hand(school, 1, 1, "if 1{}");
        for (int i = 0; i < 3; i++) {
            for (int j = 0; j < 3; j++) {
                Check.due("of " + i + " and " + j, ofSame, call.get(school, i, j));
            }
            Check.due("of " + i + " and the other one", 0, call.get(school, i, 3));
            Check.due("of the other one and " + i, 0, call.get(school, 3, i));
        }
    }

    /** Neither the answer nor the other one may be missing, in whatever state the others are. */
    private static void noSuchAnswer(OfTwo call, boolean isOfTwo) {
        ProgramSchool school = new ProgramSchool();
        Check.throwsIndex("without exercises", () -> call.get(school, 0, 0));
        school.addExercise(9, 0);
        for (int count = 0; count <= MOST_ANSWERS; count++) {
            for (int answer : new int[] {-1, count, count + 1, LEAST, GREATEST}) {
                Check.throwsIndex("the answer " + answer + " of " + count, () -> call.get(school, answer, 0));
                if (isOfTwo) {
                    Check.throwsIndex("the other one " + answer + " of " + count, () -> call.get(school, 0, answer));
                }
            }
            if (count < MOST_ANSWERS) {
                school.hand(count % 6, 0);
                int last = count;
                String got = Check.answer(() -> call.get(school, last, last));
                Check.due("an answer that there is throws none of these, but " + got, false, got.contains("IndexOutOfBounds"));
            }
        }
    }

    private static void accuseEach() {
        ProgramSchool school = Schools.due(0);
        Texts.append(school, THREE);
        for (int i = 0; i < MOST_ANSWERS; i++) {
            school.hand(i % 6, 0);
        }
        Schools.expect(school, 0, 1, 3);
        for (int i = 1; i < MOST_ANSWERS; i++) {
            Check.due("accuse(" + i + ", " + (i - 1) + ")", 100, school.accuse(i, i - 1));
        }
        for (int i = 0; i < MOST_ANSWERS; i++) {
            Check.due("mark(" + i + ")", i == 0 ? 100 : 0, school.mark(i));
        }
    }

    private static void accuseBecauseOfEach() {
        ProgramSchool school = Schools.due(0);
        Texts.append(school, THREE);
        for (int i = 0; i < MOST_ANSWERS - 1; i++) {
            school.hand(i % 5, 0);
        }
        school.hand(5, 0);
        for (int i = 0; i < MOST_ANSWERS - 1; i++) {
            Check.due("accuse(29, " + i + ")", 0, school.accuse(29, i));
            school.clear(29);
        }
        Check.throwsState("because of itself", () -> school.accuse(29, 29));
    }

    private static void markUntilNow() {
        ProgramSchool school = Schools.due(0);
        Schools.expect(school, 0, 2, 3);
        Schools.expect(school, 0, 1, 4);
        Schools.hand(school, 0, 0, THREE);
        Schools.hand(school, 1, 0, THREE);
        school.pass(3);
        Schools.hand(school, 2, 0, THREE);
        Schools.hand(school, 3, 0, THREE.replace("3", "5"));
        Check.due("of 66 points", 66, school.accuse(1, 0));
        Check.due("of 66 points, 3 days late", 46, school.accuse(2, 0));
        Check.due("of 0 points", 0, school.accuse(3, 0));
        school.clear(2);
        school.withdraw(0, 1);
        Check.due("of 100 points, 3 days late", 70, school.accuse(2, 1));
    }

    private static void struckAlready() {
        ProgramSchool school = three();
        Check.due("once", 100, school.accuse(2, 0));
        Check.throwsState("twice because of the same", () -> school.accuse(2, 0));
        Check.throwsState("twice because of another one", () -> school.accuse(2, 1));
        Check.due("because of the same, another one", 100, school.accuse(1, 0));
        school.clear(2);
        Check.due("when it was cleared, because of a struck one", 100, school.accuse(2, 1));
    }

    private static void cannotBeAccused() {
        ProgramSchool school = three();
        school.addExercise(9, 0);
        Schools.hand(school, 4, 1, THREE);
        Schools.hand(school, 0, 0, THREE);
        Schools.hand(school, 5, 0, "a=1;");
        Check.throwsState("because of itself", () -> school.accuse(0, 0));
        Check.throwsState("because of a later one", () -> school.accuse(0, 1));
        Check.throwsState("because of one to another exercise", () -> school.accuse(3, 0));
        Check.throwsState("because of one of the same pupil", () -> school.accuse(4, 0));
        Check.throwsState("because of one that is not like it", () -> school.accuse(5, 0));
        for (int i = 0; i < 6; i++) {
            int answer = i;
            Check.throwsState("none was struck", () -> school.clear(answer));
        }
        Check.due("because of one that is fine", 100, school.accuse(4, 1));
    }

    private static void cleared() {
        ProgramSchool school = three();
        school.accuse(1, 0);
        school.accuse(2, 0);
        school.clear(1);
        Check.due("mark of the cleared one", 100, school.mark(1));
        Check.due("mark anew of the cleared one", 100, school.markAnew(1));
        Check.due("mark of the other one", 0, school.mark(2));
        Check.due("best of its pupil", 100, school.best(1, 0));
        Check.due("it can be accused again", 100, school.accuse(1, 0));
        Check.due("mark of one that is struck again", 0, school.mark(1));
    }

    private static void clearOfEach() {
        ProgramSchool school = Schools.due(0);
        Texts.append(school, THREE);
        for (int i = 0; i < MOST_ANSWERS; i++) {
            school.hand(i % 6, 0);
        }
        Schools.expect(school, 0, 1, 3);
        for (int i = 1; i < MOST_ANSWERS; i++) {
            school.accuse(i, i - 1);
        }
        for (int i = 1; i < MOST_ANSWERS; i++) {
            Check.due("mark(" + i + ")", 0, school.mark(i));
            Check.due("clear(" + i + ")", 100, school.clear(i));
            Check.due("mark(" + i + ")", 100, school.mark(i));
        }
    }

    private static void markThen() {
        ProgramSchool school = three();
        Schools.expect(school, 0, 2, 4);
        Check.due("mark", 33, school.accuse(1, 0));
        Check.due("as it was", 33, school.clear(1));
        school.accuse(1, 0);
        school.withdraw(0, 1);
        Check.due("by the tests that are left", 100, school.clear(1));
        school.accuse(1, 0);
        school.withdraw(0, 0);
        Check.due("without tests", 0, school.clear(1));
        ProgramSchool late = Schools.due(0);
        Schools.expect(late, 0, 1, 3);
        Schools.hand(late, 0, 0, THREE);
        late.pass(4);
        Schools.hand(late, 1, 0, THREE);
        late.accuse(1, 0);
        late.pass(4);
        Check.due("of one that was 4 days late", 60, late.clear(1));
    }

    private static void notStruck() {
        ProgramSchool school = three();
        for (int i = 0; i < 3; i++) {
            int answer = i;
            Check.throwsState("clear(" + i + ")", () -> school.clear(answer));
        }
        school.accuse(1, 0);
        Check.throwsState("the one because of which", () -> school.clear(0));
        Check.throwsState("another one", () -> school.clear(2));
        Check.due("the struck one", 100, school.clear(1));
        Check.throwsState("once more", () -> school.clear(1));
    }

    private static void earliest() {
        ProgramSchool school = Schools.due(0);
        school.addExercise(9, 0);
        Schools.hand(school, 0, 1, THREE);
        Schools.hand(school, 1, 0, THREE);
        Schools.hand(school, 2, 0, "out 1;");
        Schools.hand(school, 3, 0, THREE);
        Schools.hand(school, 4, 0, THREE);
        Schools.hand(school, 1, 0, THREE);
        int[] doubts = {NONE, NONE, NONE, 1, 1, 3};
        for (int i = 0; i < doubts.length; i++) {
            Check.due("doubt(" + i + ")", doubts[i], school.doubt(i));
        }
        ProgramSchool full = Schools.due(0);
        for (int i = 0; i < MOST_ANSWERS - 2; i++) {
            full.hand(0, 0);
        }
        Schools.hand(full, 1, 0, THREE);
        Schools.hand(full, 2, 0, THREE);
        Check.due("doubt of the last one because of the last but one", 28, full.doubt(29));
        Check.due("doubt of the last but one", NONE, full.doubt(28));
    }

    private static void doubtOfStruck() {
        ProgramSchool school = three();
        school.accuse(2, 1);
        Check.due("of a struck one", 0, school.doubt(2));
        school.accuse(1, 0);
        Check.due("of another struck one", 0, school.doubt(1));
        Check.due("of one that is not struck", NONE, school.doubt(0));
        Schools.hand(school, 0, 0, THREE);
        Check.due("because of a struck one", 1, school.doubt(3));
        school.clear(1);
        Check.due("of one that was cleared", 0, school.doubt(1));
    }

    private static void doubtOrNone() {
        ProgramSchool school = Schools.handed("a=1;", THREE, "b=2;", THREE);
        Check.due("of the first one", NONE, school.doubt(0));
        Check.due("without one that is like it", NONE, school.doubt(1));
        Check.due("with too few parts", NONE, school.doubt(2));
        Check.due("with one that is like it", 1, school.doubt(3));
        Check.due("because of the answer 0", 0, Schools.handed(THREE, THREE).doubt(1));
        Check.due("of the only one", NONE, Schools.handed(THREE).doubt(0));
    }
}
