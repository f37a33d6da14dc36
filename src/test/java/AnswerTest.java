/** Promises 21 to 29: hand, answers, passes, endOf, points, mark, markAnew, best, passed. */
public final class AnswerTest {
    private static final int LEAST = Integer.MIN_VALUE, GREATEST = Integer.MAX_VALUE;

    public static void main(String[] args) {
        hand();
        nothingYet();
        full();
        refusedPlaces();
        ends();
        points();
        late();
        best();
        passed();
        struck();
        handedProgramsStay();
        Check.end("AnswerTest");
    }

    private static void hand() {
        ProgramSchool school = Texts.school("out 1;");
        Check.throwsIndex("no exercise", () -> school.hand(0, 0));
        school.addExercise(10, 0);
        Check.throwsIndex("pupil -1", () -> school.hand(-1, 0));
        Check.throwsIndex("pupil 6", () -> school.hand(6, 0));
        Check.throwsIndex("pupil least", () -> school.hand(LEAST, 0));
        Check.throwsIndex("exercise -1", () -> school.hand(0, -1));
        Check.throwsIndex("exercise 1", () -> school.hand(0, 1));
        Check.throwsIndex("exercise greatest", () -> school.hand(0, GREATEST));
        Check.due("answers", 0, school.answers());
        Check.due("hand", 0, school.hand(5, 0));
        Check.due("the draft stays", "out 1;", Texts.draft(school));
        Check.due("hand once more", 1, school.hand(5, 0));
        school.write('x');
        Check.throwsState("a faulty draft", () -> school.hand(0, 0));
        Check.throwsIndex("a faulty draft and no pupil", () -> school.hand(6, 0));
        Check.due("answers", 2, school.answers());
        school.wipe();
        Check.due("an empty draft", 2, school.hand(0, 0));
        Check.due("parts of the empty one", 0, school.parts(2));
        Check.due("parts of the first", 1, school.parts(0));
    }

    private static void nothingYet() {
        ProgramSchool school = Texts.school("out 1;");
        Check.throwsIndex("best without exercises", () -> school.best(0, 0));
        Check.throwsIndex("passed without exercises", () -> school.passed(0, 0));
        refused(school, 0, 0);
        school.addExercise(10, 0);
        Check.throwsIndex("passed without tests", () -> school.passed(0, 0));
        Check.due("best without answers", ProgramSchool.NONE, school.best(0, 0));
        refused(school, 0, 0);
        school.addTest(0, 1, 0, 0, 1, 1, 0);
        Check.due("passed without answers", 0, school.passed(0, 0));
        refused(school, 0, 0);
    }

    /** All calls with an answer that there is not. */
    private static void refused(ProgramSchool school, int place, int test) {
        Check.throwsIndex("passes", () -> school.passes(place, test) ? 1 : 0);
        Check.throwsIndex("endOf", () -> school.endOf(place, test));
        Check.throwsIndex("points", () -> school.points(place));
        Check.throwsIndex("mark", () -> school.mark(place));
        Check.throwsIndex("markAnew", () -> school.markAnew(place));
    }

    private static void full() {
        ProgramSchool school = Texts.school("out 1;");
        school.addExercise(10, 0);
        for (int i = 0; i < 30; i++) {
            Check.due("hand", i, school.hand(i % 6, 0));
            Check.due("answers", i + 1, school.answers());
        }
        Check.throwsState("a 31st", () -> school.hand(0, 0));
        Check.throwsIndex("a 31st of no pupil", () -> school.hand(6, 0));
        Check.due("answers", 30, school.answers());
        Check.due("test for all", 0, school.addTest(0, 1, 0, 0, 1, 1, 0));
        Check.due("passed by all", 30, school.passed(0, 0));
        Check.due("common of the last two", 1, school.common(28, 29));
        Check.due("all marks change", 30, school.withdraw(0, 0));
        refused(school, 30, 0);
        for (int i = 1; i < 8; i++) {
            Check.due("one more test", i, school.addTest(0, 1, 0, 0, 1, 1, 0));
        }
        Check.due("the last test", true, school.passes(29, 7));
        Check.throwsIndex("passes of a 9th test", () -> school.passes(29, 8) ? 1 : 0);
        Check.throwsIndex("endOf of a 9th test", () -> school.endOf(29, 8));
        Check.throwsIndex("passed of a 9th test", () -> school.passed(0, 8));
    }

    private static void refusedPlaces() {
        ProgramSchool school = Texts.school("out 1;");
        school.addExercise(10, 0);
        school.addExercise(10, 0);
        school.addTest(0, 1, 0, 0, 1, 1, 0);
        for (int place : new int[] {-1, 0, 1, LEAST, GREATEST}) {
            if (place == 0) {
                school.hand(0, 0);
                continue;
            }
            refused(school, place, 0);
            Check.throwsIndex("passed without such a test", () -> school.passed(0, place));
            Check.throwsIndex("endOf without such a test", () -> school.endOf(0, place));
            Check.throwsIndex("passes without such a test", () -> school.passes(0, place) ? 1 : 0);
        }
        for (int place : new int[] {-1, 2, LEAST, GREATEST}) {
            Check.throwsIndex("passed without such an exercise", () -> school.passed(place, 0));
            Check.throwsIndex("best without such an exercise", () -> school.best(0, place));
        }
        for (int place : new int[] {-1, 6, LEAST, GREATEST}) {
            Check.throwsIndex("best without such a pupil", () -> school.best(place, 0));
        }
        Check.throwsIndex("passed of an exercise without tests", () -> school.passed(1, 0));
    }

    private static void ends() {
        ProgramSchool school = new ProgramSchool();
        school.addExercise(40, 0);
        school.addTest(0, 1, 0, 0, 0, 0, 0);
        school.addTest(0, 1, 1, 1, 1, 1, 0);
        String[] texts = {"out 1/in;", "while 1{}", "a=2147483647+in;", "a=#(in-1);", "a=in+in+in;",
            "while 1{out 1;}", "f(in);def f(a){if a{}else{f(0);}}", "out in;"};
        int[] onZero = {ProgramSchool.DIVISION, ProgramSchool.FUEL, ProgramSchool.DONE, ProgramSchool.CELL,
            ProgramSchool.INPUT, ProgramSchool.OUTPUT, ProgramSchool.DEPTH, ProgramSchool.DONE};
        int[] onOne = {ProgramSchool.DONE, ProgramSchool.FUEL, ProgramSchool.OVERFLOW, ProgramSchool.DONE,
            ProgramSchool.INPUT, ProgramSchool.OUTPUT, ProgramSchool.DONE, ProgramSchool.DONE};
        int[] passes = {0b10, 0, 0b01, 0, 0, 0, 0, 0b10};
        for (int i = 0; i < texts.length; i++) {
            Texts.set(school, texts[i]);
            school.hand(0, 0);
            Check.due("endOf for 0 of " + texts[i], onZero[i], school.endOf(i, 0));
            Check.due("endOf for 1 of " + texts[i], onOne[i], school.endOf(i, 1));
            Check.due("passes for 0 of " + texts[i], (passes[i] & 1) != 0, school.passes(i, 0));
            Check.due("passes for 1 of " + texts[i], (passes[i] & 2) != 0, school.passes(i, 1));
        }
        school.withdraw(0, 1);
        for (int i = 0; i < texts.length; i++) {
            Check.due("endOf a withdrawn test of " + texts[i], onOne[i], school.endOf(i, 1));
            Check.due("passes of a withdrawn test of " + texts[i], (passes[i] & 2) != 0, school.passes(i, 1));
        }
        // An answer that is handed in later is run for withdrawn tests, too.
        Check.due("hand", 8, school.hand(1, 0));
        Check.due("endOf", ProgramSchool.DONE, school.endOf(8, 1));
        Check.due("passes", true, school.passes(8, 1));
        // Expected outputs and an end other than DONE.
        Texts.set(school, "out 1;out 1/0;");
        school.hand(1, 0);
        school.addTest(0, 1, 0, 0, 1, 1, 0);
        Check.due("passes with the outputs but not DONE", false, school.passes(9, 2));
    }

    private static void points() {
        ProgramSchool school = Texts.school("out in;");
        school.addExercise(40, 0);
        school.hand(0, 0);
        Check.due("without a test", 0, school.points(0));
        Check.due("mark without a test", 0, school.mark(0));
        Check.due("markAnew without a test", 0, school.markAnew(0));
        school.addTest(0, 1, 1, 0, 1, 1, 0);
        Check.due("1 of 1", 100, school.points(0));
        school.addTest(0, 2, 1, 0, 1, 2, 0);
        Check.due("1 of 3", 33, school.points(0));
        school.addTest(0, 4, 4, 0, 1, 4, 0);
        Check.due("5 of 7", 71, school.points(0));
        Check.due("mark", 71, school.mark(0));
        Check.due("markAnew", 71, school.markAnew(0));
        school.withdraw(0, 0);
        Check.due("4 of 6", 66, school.points(0));
        Check.due("markAnew", 66, school.markAnew(0));
        school.withdraw(0, 2);
        Check.due("0 of 2", 0, school.points(0));
        school.withdraw(0, 1);
        Check.due("without a test that stands", 0, school.points(0));
        Check.due("markAnew without a test that stands", 0, school.markAnew(0));
    }

    private static void late() {
        ProgramSchool school = Texts.school("if in{out 1;}");
        school.addExercise(40, 3);
        school.addTest(0, 2, 1, 0, 1, 1, 0);
        school.addTest(0, 1, 0, 0, 1, 1, 0);
        int[] marks = {66, 66, 66, 66, 59, 52, 46, 39, 33, 33, 33};
        for (int day = 0; day < marks.length; day++) {
            Check.due("hand on day " + day, day, school.hand(0, 0));
            school.pass(1);
        }
        school.pass(100);
        for (int day = 0; day < marks.length; day++) {
            Check.due("points of day " + day, 66, school.points(day));
            Check.due("mark of day " + day, marks[day], school.mark(day));
            Check.due("markAnew of day " + day, marks[day], school.markAnew(day));
        }
        school.hand(1, 0);
        Check.due("mark of day 111", 33, school.mark(11));
        school.withdraw(0, 1);
        Check.due("mark of day 5", 80, school.mark(5));
        Check.due("mark of day 7", 60, school.mark(7));
        Check.due("mark of day 111", 50, school.mark(11));
    }

    private static void best() {
        ProgramSchool school = Texts.school("out 1;");
        school.addExercise(40, 1);
        school.addExercise(40, 1);
        school.addTest(0, 1, 0, 0, 1, 1, 0);
        school.addTest(0, 1, 0, 0, 1, 2, 0);
        school.addTest(0, 2, 0, 0, 1, 2, 0);
        Check.due("without an answer", ProgramSchool.NONE, school.best(0, 0));
        school.hand(0, 0);
        Check.due("the only one", 25, school.best(0, 0));
        Check.due("of another exercise", ProgramSchool.NONE, school.best(0, 1));
        Check.due("of another pupil", ProgramSchool.NONE, school.best(1, 0));
        Texts.set(school, "out 2;");
        school.hand(0, 0);
        Check.due("the greater one", 75, school.best(0, 0));
        Texts.set(school, "out 3;");
        school.hand(0, 0);
        Check.due("not the last one", 75, school.best(0, 0));
        school.hand(5, 0);
        Check.due("of 0 points", 0, school.best(5, 0));
        school.hand(0, 1);
        Check.due("without tests", 0, school.best(0, 1));
        school.pass(6);
        Texts.set(school, "out 2;");
        school.hand(5, 0);
        Check.due("of a late one", 37, school.best(5, 0));
    }

    private static void passed() {
        ProgramSchool school = Texts.school("out 1;");
        school.addExercise(40, 1);
        school.addExercise(40, 1);
        school.addTest(0, 1, 0, 0, 1, 1, 0);
        school.addTest(0, 1, 0, 0, 1, 2, 0);
        school.addTest(1, 1, 0, 0, 1, 1, 0);
        Check.due("without answers", 0, school.passed(0, 0));
        school.hand(0, 0);
        school.hand(0, 0);
        school.hand(1, 0);
        school.hand(1, 1);
        Check.due("all", 3, school.passed(0, 0));
        Check.due("none", 0, school.passed(0, 1));
        Check.due("of the other exercise", 1, school.passed(1, 0));
        Texts.set(school, "out 2;");
        school.hand(2, 0);
        Check.due("three of four", 3, school.passed(0, 0));
        Check.due("one of four", 1, school.passed(0, 1));
        school.withdraw(0, 0);
        Check.due("of a withdrawn test", 3, school.passed(0, 0));
    }

    private static void struck() {
        ProgramSchool school = Texts.school("a=1;b=a;out b;");
        school.addExercise(40, 1);
        school.addTest(0, 1, 0, 0, 1, 1, 0);
        school.hand(0, 0);
        school.hand(1, 0);
        Check.due("mark", 100, school.mark(1));
        Check.due("accuse", 100, school.accuse(1, 0));
        Check.due("mark of a struck answer", 0, school.mark(1));
        Check.due("markAnew of a struck answer", 0, school.markAnew(1));
        Check.due("points of a struck answer", 100, school.points(1));
        Check.due("best with a struck answer", 0, school.best(1, 0));
        Check.due("passes of a struck answer", true, school.passes(1, 0));
        Check.due("passed with a struck answer", 2, school.passed(0, 0));
        Check.due("mark of the other", 100, school.mark(0));
        Check.due("clear", 100, school.clear(1));
        Check.due("markAnew of a cleared answer", 100, school.markAnew(1));
    }

    /** What is done with the draft later is nothing to the answers. */
    private static void handedProgramsStay() {
        ProgramSchool school = new ProgramSchool();
        school.addExercise(40, 0);
        school.addTest(0, 1, 3, 0, 1, 0, 0);
        school.addTest(0, 2, 3, 0, 1, 1, 0);
        school.addTest(0, 4, 3, 0, 1, 2, 0);
        int[] marks = {14, 28, 57};
        for (int i = 0; i < 9; i++) {
            Texts.set(school, "a=" + (i % 3) + ";" + "b=1;".repeat(i) + "out a;");
            Check.due("hand", i, school.hand(i % 6, 0));
        }
        Texts.set(school, "out 9;");
        Check.due("trialByTree", ProgramSchool.DONE, school.trialByTree(9, 0, 0));
        Check.due("output", 9, school.outputAt(0));
        for (int i = 8; i >= 0; i--) {
            Check.due("mark of " + i, marks[i % 3], school.mark(i));
            Check.due("markAnew of " + i, marks[i % 3], school.markAnew(i));
            Check.due("parts of " + i, i + 2, school.parts(i));
            Check.due("trial", ProgramSchool.DONE, school.trial(9, 0, 0));
            Check.due("output", 9, school.outputAt(0));
        }
        school.addTest(0, 7, 1, 1, 1, 1, 0);
        Check.due("mark by a test added later", 64, school.mark(1));
        Check.due("markAnew by a test added later", 64, school.markAnew(1));
    }
}
