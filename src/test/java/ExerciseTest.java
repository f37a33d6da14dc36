/** Promises 16 to 20: addExercise, addTest, withdraw, pass, today. */
public final class ExerciseTest {
    private static final int LEAST = Integer.MIN_VALUE, GREATEST = Integer.MAX_VALUE;

    public static void main(String[] args) {
        addExercise();
        addTest();
        addTestForAnswers();
        withdraw();
        withdrawCounts();
        pass();
        Check.end("ExerciseTest");
    }

    private static void addExercise() {
        ProgramSchool school = new ProgramSchool();
        Check.throwsArgument("fuel 0", () -> school.addExercise(0, 5));
        Check.throwsArgument("fuel 2001", () -> school.addExercise(2001, 5));
        Check.throwsArgument("fuel -1", () -> school.addExercise(-1, 5));
        Check.throwsArgument("fuel least", () -> school.addExercise(LEAST, 5));
        Check.throwsArgument("fuel greatest", () -> school.addExercise(GREATEST, 5));
        Check.throwsArgument("due -1", () -> school.addExercise(1, -1));
        Check.throwsArgument("due 1001", () -> school.addExercise(1, 1001));
        Check.throwsArgument("due least", () -> school.addExercise(1, LEAST));
        Check.due("least fuel and due", 0, school.addExercise(1, 0));
        Check.due("greatest fuel and due", 1, school.addExercise(2000, 1000));
        school.pass(7);
        Check.throwsArgument("due yesterday", () -> school.addExercise(1, 6));
        Check.due("due today", 2, school.addExercise(1, 7));
        Check.due("another", 3, school.addExercise(50, 8));
        Check.throwsState("a 5th", () -> school.addExercise(50, 8));
        Check.throwsArgument("a 5th with no fuel", () -> school.addExercise(0, 8));
        Check.throwsArgument("a 5th that was due", () -> school.addExercise(50, 6));
        // Each exercise has its own fuel.
        Texts.append(school, "a=1;b=1;");
        for (int i = 0; i < 4; i++) {
            school.addTest(i, 1, 0, 0, 0, 0, 0);
            school.hand(0, i);
        }
        Check.due("fuel 1", ProgramSchool.FUEL, school.endOf(0, 0));
        Check.due("fuel 2000", ProgramSchool.DONE, school.endOf(1, 0));
        Check.due("fuel 1", ProgramSchool.FUEL, school.endOf(2, 0));
        Check.due("fuel 50", ProgramSchool.DONE, school.endOf(3, 0));
    }

    private static void addTest() {
        ProgramSchool school = new ProgramSchool();
        Check.throwsIndex("no exercise", () -> school.addTest(0, 1, 0, 0, 0, 0, 0));
        school.addExercise(100, 0);
        school.addExercise(100, 0);
        Check.throwsIndex("exercise -1", () -> school.addTest(-1, 1, 0, 0, 0, 0, 0));
        Check.throwsIndex("exercise 2", () -> school.addTest(2, 1, 0, 0, 0, 0, 0));
        Check.throwsIndex("exercise 2 and weight 0", () -> school.addTest(2, 0, 0, 0, 0, 0, 0));
        Check.throwsArgument("weight 0", () -> school.addTest(0, 0, 0, 0, 0, 0, 0));
        Check.throwsArgument("weight 11", () -> school.addTest(0, 11, 0, 0, 0, 0, 0));
        Check.throwsArgument("weight -1", () -> school.addTest(0, -1, 0, 0, 0, 0, 0));
        Check.throwsArgument("weight least", () -> school.addTest(0, LEAST, 0, 0, 0, 0, 0));
        Check.throwsArgument("count -1", () -> school.addTest(0, 1, 0, 0, -1, 0, 0));
        Check.throwsArgument("count 3", () -> school.addTest(0, 1, 0, 0, 3, 0, 0));
        Check.throwsArgument("count greatest", () -> school.addTest(0, 1, 0, 0, GREATEST, 0, 0));
        for (int i = 0; i < 8; i++) {
            Check.due("test", i, school.addTest(0, i + 1, LEAST, GREATEST, i % 3, LEAST, GREATEST));
        }
        Check.throwsState("a 9th", () -> school.addTest(0, 1, 0, 0, 0, 0, 0));
        Check.throwsArgument("a 9th with weight 0", () -> school.addTest(0, 0, 0, 0, 0, 0, 0));
        school.withdraw(0, 3);
        Check.throwsState("a 9th with one withdrawn", () -> school.addTest(0, 1, 0, 0, 0, 0, 0));
        Check.due("first of another exercise", 0, school.addTest(1, 10, 0, 0, 2, 1, 1));
    }

    private static void addTestForAnswers() {
        ProgramSchool school = Texts.school("a=in;out a;if a-1{out in;}");
        school.addExercise(100, 0);
        school.addExercise(100, 0);
        school.hand(0, 0);
        school.hand(0, 1);
        Check.due("points without tests", 0, school.points(0));
        // A program that was handed in stays as it was, whatever the draft is.
        school.wipe();
        school.write('?');
        Check.due("fault of the draft", ProgramSchool.SIGN, school.fault());
        school.addTest(0, 1, 1, 5, 1, 1, 5);
        Check.due("one output", true, school.passes(0, 0));
        school.addTest(0, 1, 2, 5, 2, 2, 5);
        Check.due("two outputs", true, school.passes(0, 1));
        school.addTest(0, 1, 2, 5, 1, 2, 5);
        Check.due("an output too many", false, school.passes(0, 2));
        school.addTest(0, 1, 1, 5, 2, 1, 5);
        Check.due("an output too few", false, school.passes(0, 3));
        school.addTest(0, 1, 2, 5, 2, 5, 2);
        Check.due("another order", false, school.passes(0, 4));
        school.addTest(0, 1, 1, 5, 0, 1, 5);
        Check.due("no output expected", false, school.passes(0, 5));
        school.addTest(0, 1, 1, 5, 1, 5, 1);
        Check.due("another output", false, school.passes(0, 6));
        school.addTest(0, 3, 2, 4, 2, 2, 4);
        Check.due("two outputs", true, school.passes(0, 7));
        Check.due("points", 50, school.points(0));
        Check.due("points of the other exercise's answer", 0, school.points(1));
        Check.throwsIndex("no test of the other exercise", () -> school.passes(1, 0) ? 1 : 0);
        Check.due("first of the other", 0, school.addTest(1, 1, 1, 0, 1, 1, 0));
        Check.due("points of the other exercise's answer", 100, school.points(1));
    }

    private static void withdraw() {
        ProgramSchool school = new ProgramSchool();
        Check.throwsIndex("no exercise", () -> school.withdraw(0, 0));
        school.addExercise(100, 0);
        school.addExercise(100, 0);
        school.addTest(0, 1, 0, 0, 0, 0, 0);
        school.addTest(0, 1, 0, 0, 0, 0, 0);
        Check.throwsIndex("exercise -1", () -> school.withdraw(-1, 0));
        Check.throwsIndex("exercise 2", () -> school.withdraw(2, 0));
        Check.throwsIndex("test -1", () -> school.withdraw(0, -1));
        Check.throwsIndex("test 2", () -> school.withdraw(0, 2));
        Check.throwsIndex("test of another exercise", () -> school.withdraw(1, 0));
        Check.throwsIndex("test least", () -> school.withdraw(0, LEAST));
        Check.due("without answers", 0, school.withdraw(0, 0));
        Check.throwsState("once more", () -> school.withdraw(0, 0));
        Check.due("the other one", 0, school.withdraw(0, 1));
        Check.throwsState("once more", () -> school.withdraw(0, 1));
    }

    private static void withdrawCounts() {
        ProgramSchool school = Texts.school("out in;");
        school.addExercise(100, 0);
        school.addExercise(100, 0);
        school.addTest(0, 2, 1, 0, 1, 1, 0);
        school.addTest(0, 2, 2, 0, 1, 3, 0);
        school.addTest(1, 2, 2, 0, 1, 2, 0);
        school.hand(0, 0);
        school.hand(0, 1);
        Texts.set(school, "out 3;");
        school.hand(1, 0);
        Texts.set(school, "out 4;");
        school.hand(2, 0);
        Texts.set(school, "if in-1{out 3;}else{out 1;}");
        school.hand(3, 0);
        Check.due("mark of in", 50, school.mark(0));
        Check.due("mark of 3", 50, school.mark(2));
        Check.due("mark of 4", 0, school.mark(3));
        Check.due("mark of both", 100, school.mark(4));
        Check.due("two marks change, two do not", 2, school.withdraw(0, 1));
        Check.due("mark of in", 100, school.mark(0));
        Check.due("mark of the other exercise", 100, school.mark(1));
        Check.due("mark of 3", 0, school.mark(2));
        Check.due("mark of both", 100, school.mark(4));
        Check.due("passes is told of a withdrawn test", true, school.passes(2, 1));
        Check.due("passed is told of a withdrawn test", 2, school.passed(0, 1));
        Check.due("the last test is withdrawn", 2, school.withdraw(0, 0));
        Check.due("mark without tests", 0, school.mark(0));
        Check.due("a new test", 2, school.addTest(0, 1, 7, 0, 1, 7, 0));
        Check.due("mark by the new test", 100, school.mark(0));
        Check.due("mark by the new test", 0, school.mark(4));
        struckDoNotCount();
    }

    private static void struckDoNotCount() {
        ProgramSchool school = Texts.school("a=1;b=2;out 1;");
        school.addExercise(100, 0);
        school.addTest(0, 1, 0, 0, 1, 1, 0);
        school.addTest(0, 1, 0, 0, 1, 2, 0);
        school.hand(0, 0);
        school.hand(1, 0);
        school.accuse(1, 0);
        Check.due("a struck answer's mark stays 0", 1, school.withdraw(0, 1));
        Check.due("mark when it is cleared", 100, school.clear(1));
        Check.due("both marks change", 2, school.withdraw(0, 0));
    }

    private static void pass() {
        ProgramSchool school = new ProgramSchool();
        Check.throwsArgument("0", () -> school.pass(0));
        Check.throwsArgument("-1", () -> school.pass(-1));
        Check.throwsArgument("101", () -> school.pass(101));
        Check.throwsArgument("least", () -> school.pass(LEAST));
        Check.throwsArgument("greatest", () -> school.pass(GREATEST));
        Check.due("today", 0, school.today());
        Check.due("1", 1, school.pass(1));
        Check.due("today", 1, school.today());
        for (int i = 1; i < 10; i++) {
            Check.due("100", 100 * i + 1, school.pass(100));
        }
        Check.throwsState("above 1000", () -> school.pass(100));
        Check.due("today", 901, school.today());
        Check.due("up to 1000", 1000, school.pass(99));
        Check.throwsState("1001", () -> school.pass(1));
        Check.throwsArgument("0 at the end", () -> school.pass(0));
        Check.throwsArgument("101 at the end", () -> school.pass(101));
        Check.due("today", 1000, school.today());
        Check.due("an exercise on the last day", 0, school.addExercise(1, 1000));
        Check.throwsArgument("an exercise due before", () -> school.addExercise(1, 999));
    }
}
