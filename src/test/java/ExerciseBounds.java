/** The bounds of exercises, tests and days: the sentences of promises 16 to 20. */
final class ExerciseBounds {
    private static final int DONE = ProgramSchool.DONE, FUEL = ProgramSchool.FUEL, NONE = ProgramSchool.NONE;
    private static final int LEAST = Schools.LEAST, GREATEST = Schools.GREATEST;
    private static final int MOST_EXERCISES = 4;
    private static final int MOST_TESTS = 8;

    private ExerciseBounds() {
    }

    static void test() {
        addExercise();
        addTest();
        withdraw();
        Sentence.section("Promise 19: pass");
        Sentence.holds("Lets days pass.", ExerciseBounds::daysPass);
        Sentence.holds("- `days`: 1 to 100", ExerciseBounds::days);
        Sentence.holds("Returns today, then.", ExerciseBounds::todayThen);
        Sentence.holds("Throws `IllegalArgumentException` if days is out of range", ExerciseBounds::daysRefused);
        Sentence.holds("Throws `IllegalStateException` if it would be above 1000", ExerciseBounds::lastDay);
        Sentence.section("Promise 20: today");
        Sentence.holds("Returns today.", ExerciseBounds::today);
    }

    private static void addExercise() {
        Sentence.section("Promise 16: addExercise");
        Sentence.holds("Adds an exercise.", ExerciseBounds::exerciseIsThere);
        Sentence.holds("- `fuel`: 1 to 2000", ExerciseBounds::exerciseFuel);
        Sentence.holds("- `due`: today to 1000", ExerciseBounds::exerciseDue);
        Sentence.holds("Returns its number.", ExerciseBounds::exerciseNumber);
        Sentence.holds("Throws `IllegalArgumentException` if fuel or due is out of range", ExerciseBounds::exerciseRefused);
        Sentence.holds("Throws `IllegalStateException` if there are 4", ExerciseBounds::exercisesFull);
    }

    private static void addTest() {
        Sentence.section("Promise 17: addTest");
        Sentence.holds("Adds a test to an exercise; it counts for answers that were handed in, too.", ExerciseBounds::testCounts);
        Sentence.holds("- `exercise`: an exercise", ExerciseBounds::testExercise);
        Sentence.holds("- `weight`: 1 to 10", ExerciseBounds::testWeight);
        Sentence.holds("- `first`: the first input", ExerciseBounds::testFirst);
        Sentence.holds("- `second`: the second input", ExerciseBounds::testSecond);
        Sentence.holds("- `count`: 0 to 2: how many outputs are expected", ExerciseBounds::testCount);
        Sentence.holds("- `one`: the first one, if there is one", ExerciseBounds::testOne);
        Sentence.holds("- `other`: the second one, if there is one", ExerciseBounds::testOther);
        Sentence.holds("Returns its number.", ExerciseBounds::testNumber);
        Sentence.holds("Throws `IndexOutOfBoundsException` if there is no such exercise", ExerciseBounds::testWithoutExercise);
        Sentence.holds("Throws `IllegalArgumentException` if weight or count is out of range", ExerciseBounds::testRefused);
        Sentence.holds("Throws `IllegalStateException` if it has 8, those that were withdrawn counted", ExerciseBounds::testsFull);
    }

    private static void withdraw() {
        Sentence.section("Promise 18: withdraw");
        Sentence.holds("Withdraws a test.", ExerciseBounds::withdrawn);
        Sentence.holds("- `exercise`: an exercise", ExerciseBounds::withdrawOfExercise);
        Sentence.holds("- `test`: a test of it", ExerciseBounds::withdrawOfTest);
        Sentence.holds("Returns how many answers have another mark by that.", ExerciseBounds::otherMarks);
        Sentence.holds("Throws `IndexOutOfBoundsException` if there is no such exercise or test", ExerciseBounds::withdrawRefused);
        Sentence.holds("Throws `IllegalStateException` if it was withdrawn", ExerciseBounds::withdrawnOnce);
    }

    private static int anyTest(ProgramSchool school, int exercise) {
        return school.addTest(exercise, 1, 0, 0, 0, 0, 0);
    }

    private static ProgramSchool exercises(int count) {
        ProgramSchool school = new ProgramSchool();
        for (int i = 0; i < count; i++) {
            school.addExercise(100, 0);
        }
        return school;
    }

    private static void exerciseIsThere() {
        ProgramSchool school = new ProgramSchool();
        for (int i = 0; i < MOST_EXERCISES; i++) {
            int exercise = i;
            Check.throwsIndex("best before", () -> school.best(0, exercise));
            school.addExercise(100, 0);
            Check.due("best", NONE, school.best(0, exercise));
            Check.throwsIndex("a test of it", () -> school.passed(exercise, 0));
            Check.due("hand", i, school.hand(0, exercise));
        }
    }

    private static void exerciseFuel() {
        ProgramSchool school = new ProgramSchool();
        Check.due("1", 0, school.addExercise(1, 0));
        Check.due("2000", 1, school.addExercise(2000, 0));
        Check.due("2", 2, school.addExercise(2, 0));
        Check.due("1999", 3, school.addExercise(1999, 0));
        for (int i = 0; i < MOST_EXERCISES; i++) {
            anyTest(school, i);
        }
        int[][] ends = {{DONE, DONE, DONE, DONE}, {FUEL, DONE, DONE, DONE}, {FUEL, DONE, FUEL, DONE}, {FUEL, DONE, FUEL, DONE},
            {FUEL, DONE, FUEL, FUEL}, {FUEL, FUEL, FUEL, FUEL}};
        // They take 1, 2, 3, 1999, 2000 and 2001.
        String turns = "while i<499{i=i+1;}";
        String[] texts = {"a=1;", "a=1;a=1;", "a=1;a=1;a=1;", turns + "a=1;", turns + "a=1;a=1;", turns + "a=1;a=1;a=1;"};
        for (int i = 0; i < texts.length; i++) {
            for (int j = 0; j < MOST_EXERCISES; j++) {
                Check.due("end of " + texts[i], ends[i][j], school.endOf(Schools.hand(school, 0, j, texts[i]), 0));
            }
        }
    }

    private static void exerciseDue() {
        ProgramSchool school = new ProgramSchool();
        Check.due("the day 0 on the day 0", 0, school.addExercise(1, 0));
        Check.due("the day 1000 on the day 0", 1, school.addExercise(1, 1000));
        Schools.passTo(school, 400);
        Check.due("the day 400 on the day 400", 2, school.addExercise(1, 400));
        Schools.passTo(school, 1000);
        Check.due("the day 1000 on the day 1000", 3, school.addExercise(1, 1000));
    }

    private static void exerciseNumber() {
        ProgramSchool school = new ProgramSchool();
        for (int i = 0; i < MOST_EXERCISES; i++) {
            Check.throwsArgument("a refused one has none", () -> school.addExercise(0, 0));
            Check.due("number", i, school.addExercise(100, i));
        }
    }

    private static void exerciseRefused() {
        ProgramSchool school = new ProgramSchool();
        for (int day : new int[] {0, 1, 7, 1000}) {
            Schools.passTo(school, day);
            for (int fuel : new int[] {0, -1, 2001, 2002, LEAST, GREATEST}) {
                Check.throwsArgument("fuel " + fuel + " on day " + day, () -> school.addExercise(fuel, 1000));
            }
            for (int due : new int[] {day - 1, day - 2, -1, 1001, 1002, LEAST, GREATEST}) {
                Check.throwsArgument("due " + due + " on day " + day, () -> school.addExercise(1, due));
            }
        }
        Check.due("nothing was added", 0, school.addExercise(1, 1000));
    }

    private static void exercisesFull() {
        ProgramSchool school = new ProgramSchool();
        for (int i = 0; i < MOST_EXERCISES; i++) {
            Check.due("one of 4", i, school.addExercise(1, 0));
        }
        Check.throwsState("a 5th", () -> school.addExercise(1, 0));
        Check.throwsState("a 5th once more", () -> school.addExercise(2000, 1000));
        Check.due("the 4th", 0, school.hand(0, 3));
        Check.throwsIndex("the 5th is not there", () -> school.hand(0, 4));
    }

    private static void testCounts() {
        ProgramSchool school = exercises(2);
        Schools.hand(school, 0, 0, "out 1;");
        Schools.hand(school, 1, 1, "out 1;");
        Schools.hand(school, 2, 0, "out 2;");
        Check.due("points before", 0, school.points(0));
        Schools.expect(school, 0, 1, 1);
        Check.due("points of one that passes it", 100, school.points(0));
        Check.due("points of one that does not", 0, school.points(2));
        Check.due("points of another exercise's", 0, school.points(1));
        Check.due("passed", 1, school.passed(0, 0));
        Schools.expect(school, 0, 1, 2);
        Check.due("points by two tests", 50, school.points(0));
        Check.due("points by two tests", 50, school.points(2));
        Check.due("mark anew", 50, school.markAnew(2));
        Schools.hand(school, 3, 0, "out 1;");
        Check.due("points of one that is handed in later", 50, school.points(3));
        Check.throwsIndex("the other exercise has none", () -> school.passed(1, 0));
    }

    private static void testExercise() {
        ProgramSchool school = exercises(MOST_EXERCISES);
        for (int i = 0; i < MOST_EXERCISES; i++) {
            int exercise = i;
            Check.throwsIndex("passed before", () -> school.passed(exercise, 0));
            Check.due("addTest", 0, anyTest(school, i));
            Check.due("passed", 0, school.passed(exercise, 0));
        }
        Check.throwsIndex("exercise 4", () -> anyTest(school, 4));
    }

    private static void testWeight() {
        ProgramSchool school = exercises(1);
        Schools.hand(school, 0, 0, "out 1;");
        Check.due("weight 1", 0, Schools.expect(school, 0, 1, 1));
        Check.due("points by 1 of 1", 100, school.points(0));
        Check.due("weight 10", 1, Schools.expect(school, 0, 10, 2));
        Check.due("points by 1 of 11", 9, school.points(0));
        Check.due("weight 10", 2, Schools.expect(school, 0, 10, 1));
        Check.due("points by 11 of 21", 52, school.points(0));
        Check.due("weight 9", 3, Schools.expect(school, 0, 9, 2));
        Check.due("points by 11 of 30", 36, school.points(0));
        Check.due("weight 2", 4, Schools.expect(school, 0, 2, 1));
        Check.due("points by 13 of 32", 40, school.points(0));
    }

    private static void testFirst() {
        ProgramSchool school = exercises(1);
        Schools.hand(school, 0, 0, "out in;");
        for (int first : new int[] {0, 1, LEAST, GREATEST}) {
            Check.due("passes with it", true, school.passes(0, school.addTest(0, 1, first, 5, 1, first, 0)));
            Check.due("passes with the other one", false, school.passes(0, school.addTest(0, 1, first, 5, 1, 5, 0)));
        }
        Check.due("points", 50, school.points(0));
        Check.due("mark anew", 50, school.markAnew(0));
    }

    private static void testSecond() {
        ProgramSchool school = exercises(1);
        Schools.hand(school, 0, 0, "a=in;out in;");
        for (int second : new int[] {0, 1, LEAST, GREATEST}) {
            Check.due("passes with it", true, school.passes(0, school.addTest(0, 1, 5, second, 1, second, 0)));
            Check.due("passes with the other one", false, school.passes(0, school.addTest(0, 1, 5, second, 1, 5, 0)));
        }
        Check.due("points", 50, school.points(0));
        Check.due("mark anew", 50, school.markAnew(0));
    }

    /** Texts with no output to three, against a test with some count. */
    private static void testCount() {
        for (int count = 0; count <= 2; count++) {
            ProgramSchool school = exercises(1);
            Check.due("count " + count, 0, school.addTest(0, 1, 0, 0, count, 7, 7));
            for (int made = 0; made <= 3; made++) {
                Schools.hand(school, 0, 0, "out 7;".repeat(made));
                Check.due(made + " outputs, " + count + " expected", made == count, school.passes(made, 0));
                Check.due("points anew", made == count ? 100 : 0, school.markAnew(made));
            }
        }
    }

    private static void testOne() {
        ProgramSchool school = exercises(1);
        Schools.hand(school, 0, 0, "out in;");
        Schools.hand(school, 0, 0, "");
        for (int one : new int[] {0, 1, -1, LEAST, GREATEST}) {
            int same = school.addTest(0, 1, one, 0, 1, one, 5);
            Check.due("the one expected", true, school.passes(0, same));
        }
        int less = school.addTest(0, 1, 6, 0, 1, 5, 6);
        Check.due("one less expected", false, school.passes(0, less));
        int more = school.addTest(0, 1, 6, 0, 1, 7, 6);
        Check.due("one more expected", false, school.passes(0, more));
        int none = school.addTest(0, 1, 6, 0, 0, 6, 6);
        Check.due("none expected", false, school.passes(0, none));
        Check.due("none expected and none made", true, school.passes(1, none));
    }

    private static void testOther() {
        ProgramSchool school = exercises(1);
        Schools.hand(school, 0, 0, "out 3;out in;");
        Schools.hand(school, 0, 0, "out 3;");
        for (int other : new int[] {0, 1, -1, LEAST, GREATEST}) {
            int same = school.addTest(0, 1, other, 0, 2, 3, other);
            Check.due("the two expected", true, school.passes(0, same));
        }
        int less = school.addTest(0, 1, 6, 0, 2, 3, 5);
        Check.due("one less expected", false, school.passes(0, less));
        int first = school.addTest(0, 1, 6, 0, 2, 4, 6);
        Check.due("another first one expected", false, school.passes(0, first));
        int none = school.addTest(0, 1, 6, 0, 1, 3, 6);
        Check.due("only one expected", false, school.passes(0, none));
        Check.due("only one expected and one made", true, school.passes(1, none));
    }

    private static void testNumber() {
        ProgramSchool school = exercises(2);
        for (int i = 0; i < MOST_TESTS; i++) {
            Check.due("number", i, anyTest(school, 1));
            Check.throwsArgument("a refused one has none", () -> school.addTest(1, 0, 0, 0, 0, 0, 0));
        }
        Check.due("the first one of another exercise", 0, anyTest(school, 0));
        school.withdraw(0, 0);
        Check.due("behind one that was withdrawn", 1, anyTest(school, 0));
    }

    private static void testWithoutExercise() {
        for (int count = 0; count <= MOST_EXERCISES; count++) {
            ProgramSchool school = exercises(count);
            for (int exercise : new int[] {-1, count, count + 1, LEAST, GREATEST}) {
                Check.throwsIndex("exercise " + exercise + " of " + count, () -> anyTest(school, exercise));
            }
            if (count > 0) {
                Check.due("the last one", 0, anyTest(school, count - 1));
                Check.due("the first one", count == 1 ? 1 : 0, anyTest(school, 0));
            }
        }
    }

    private static void testRefused() {
        ProgramSchool school = exercises(1);
        for (int weight : new int[] {0, -1, 11, 12, LEAST, GREATEST}) {
            Check.throwsArgument("weight " + weight, () -> school.addTest(0, weight, 0, 0, 0, 0, 0));
        }
        for (int count : new int[] {-1, -2, 3, 4, LEAST, GREATEST}) {
            Check.throwsArgument("count " + count, () -> school.addTest(0, 1, 0, 0, count, 0, 0));
        }
        Check.due("weight 1 and count 0", 0, school.addTest(0, 1, 0, 0, 0, 0, 0));
        Check.due("weight 10 and count 2", 1, school.addTest(0, 10, 0, 0, 2, 0, 0));
    }

    private static void testsFull() {
        ProgramSchool school = exercises(2);
        for (int i = 0; i < MOST_TESTS; i++) {
            Check.due("one of 8", i, anyTest(school, 0));
        }
        Check.throwsState("a 9th", () -> anyTest(school, 0));
        for (int i = 0; i < MOST_TESTS; i++) {
            school.withdraw(0, i);
            Check.throwsState("a 9th with " + (i + 1) + " withdrawn", () -> anyTest(school, 0));
        }
        Check.due("the 8th is there", 0, school.passed(0, 7));
        Check.throwsIndex("the 9th is not there", () -> school.passed(0, 8));
        Check.due("another exercise", 0, anyTest(school, 1));
    }

    private static void withdrawn() {
        ProgramSchool school = exercises(1);
        Schools.expect(school, 0, 1, 1);
        Schools.expect(school, 0, 1, 2);
        Schools.hand(school, 0, 0, "out 1;");
        Check.due("points with both", 50, school.points(0));
        school.withdraw(0, 1);
        Check.due("points with one", 100, school.points(0));
        Check.due("points anew", 100, school.markAnew(0));
        Schools.hand(school, 0, 0, "out 2;");
        Check.due("points of one that is handed in later", 0, school.points(1));
        school.withdraw(0, 0);
        Check.due("points with none", 0, school.points(0));
        Check.due("points anew", 0, school.markAnew(0));
    }

    private static void withdrawOfExercise() {
        ProgramSchool school = exercises(MOST_EXERCISES);
        for (int i = 0; i < MOST_EXERCISES; i++) {
            Schools.expect(school, i, 1, 1);
            Schools.expect(school, i, 1, 2);
            Schools.hand(school, 0, i, "out 1;");
        }
        for (int i = MOST_EXERCISES - 1; i >= 0; i--) {
            Check.due("points before", 50, school.points(i));
            Check.due("withdraw", 1, school.withdraw(i, 1));
            Check.due("points", 100, school.points(i));
        }
    }

    private static void withdrawOfTest() {
        ProgramSchool school = exercises(1);
        for (int i = 0; i < MOST_TESTS; i++) {
            Schools.expect(school, 0, 1, i);
        }
        Schools.hand(school, 0, 0, "out 3;");
        Check.due("points of 1 of 8", 12, school.points(0));
        Check.due("the first one", 1, school.withdraw(0, 0));
        Check.due("points of 1 of 7", 14, school.points(0));
        Check.due("the last one", 1, school.withdraw(0, 7));
        Check.due("points of 1 of 6", 16, school.points(0));
        Check.due("the one that it passes", 1, school.withdraw(0, 3));
        Check.due("points of 0 of 5", 0, school.points(0));
    }

    private static void otherMarks() {
        ProgramSchool school = exercises(2);
        Schools.expect(school, 0, 1, 1);
        Schools.expect(school, 0, 1, 2);
        Schools.expect(school, 1, 1, 1);
        Check.due("without answers", 0, exercisesWithTest().withdraw(0, 0));
        Schools.hand(school, 0, 0, "out 1;");
        Schools.hand(school, 1, 0, "out 2;");
        Schools.hand(school, 2, 0, "out 3;");
        Schools.hand(school, 3, 1, "out 1;");
        Check.due("50 to 100, 50 to 0, 0 stays", 2, school.withdraw(0, 1));
        Check.due("100 to 0, 0 stays", 1, school.withdraw(0, 0));
        Check.due("the other exercise's", 1, school.withdraw(1, 0));
        otherMarksOfStruck();
        otherMarksRounded();
        otherMarksOfAll();
    }

    private static ProgramSchool exercisesWithTest() {
        ProgramSchool school = exercises(1);
        anyTest(school, 0);
        return school;
    }

    /** The mark of a struck answer stays 0, though its points change. */
    private static void otherMarksOfStruck() {
        ProgramSchool school = Schools.handed("a=1;b=1;out 1;", "a=1;b=1;out 1;");
        Schools.expect(school, 0, 1, 1);
        Schools.expect(school, 0, 1, 2);
        school.accuse(1, 0);
        Check.due("only that which is not struck", 1, school.withdraw(0, 1));
        Check.due("points of the struck one", 100, school.points(1));
        school.clear(1);
        Check.due("both", 2, school.withdraw(0, 0));
    }

    /** Points that change, and a mark that is rounded to what it was. */
    private static void otherMarksRounded() {
        ProgramSchool school = exercises(1);
        school.pass(5);
        Schools.hand(school, 0, 0, "out 1;");
        int[] weights = {10, 10, 1};
        for (int weight : weights) {
            Schools.expect(school, 0, weight, 2);
        }
        Schools.expect(school, 0, 1, 1);
        Check.due("points by 1 of 22", 4, school.points(0));
        Check.due("mark of 4 points, late", 2, school.mark(0));
        Check.due("no other mark", 0, school.withdraw(0, 2));
        Check.due("points by 1 of 21", 4, school.points(0));
        Check.due("another mark", 1, school.withdraw(0, 1));
        Check.due("points by 1 of 11", 9, school.points(0));
        Check.due("mark of 9 points, late", 4, school.mark(0));
        Schools.expect(school, 0, 1, 2);
        Check.due("points by 1 of 12", 8, school.points(0));
        Check.due("points change, the mark does not", 0, school.withdraw(0, 4));
        Check.due("points by 1 of 11", 9, school.points(0));
    }

    private static void otherMarksOfAll() {
        ProgramSchool school = exercises(1);
        Schools.expect(school, 0, 1, 1);
        for (int i = 0; i < 30; i++) {
            Schools.hand(school, i % 6, 0, "out 1;");
        }
        Check.due("all 30", 30, school.withdraw(0, 0));
    }

    private static void withdrawRefused() {
        ProgramSchool school = exercises(2);
        for (int count = 0; count <= MOST_TESTS; count++) {
            for (int test : new int[] {-1, count, count + 1, LEAST, GREATEST}) {
                Check.throwsIndex("test " + test + " of " + count, () -> school.withdraw(0, test));
            }
            for (int exercise : new int[] {-1, 2, 3, LEAST, GREATEST}) {
                Check.throwsIndex("exercise " + exercise + " of 2", () -> school.withdraw(exercise, 0));
            }
            Check.throwsIndex("test of the exercise without one", () -> school.withdraw(1, 0));
            if (count < MOST_TESTS) {
                anyTest(school, 0);
            }
        }
        Check.due("the first one", 0, school.withdraw(0, 0));
        Check.due("the last one", 0, school.withdraw(0, 7));
        Check.throwsIndex("without exercises", () -> new ProgramSchool().withdraw(0, 0));
    }

    private static void withdrawnOnce() {
        ProgramSchool school = exercises(2);
        anyTest(school, 0);
        anyTest(school, 0);
        anyTest(school, 1);
        Check.due("once", 0, school.withdraw(0, 0));
        Check.throwsState("twice", () -> school.withdraw(0, 0));
        Check.due("another test", 0, school.withdraw(0, 1));
        Check.throwsState("that one twice", () -> school.withdraw(0, 1));
        Check.due("the same number of another exercise", 0, school.withdraw(1, 0));
        Check.throwsState("the first one a third time", () -> school.withdraw(0, 0));
    }

    private static void daysPass() {
        ProgramSchool school = new ProgramSchool();
        school.pass(3);
        Check.due("today", 3, school.today());
        school.pass(4);
        Check.due("today", 7, school.today());
        Check.throwsArgument("yesterday is no day to be due", () -> school.addExercise(1, 6));
        Check.due("today is", 0, school.addExercise(1, 7));
    }

    private static void days() {
        for (int days : new int[] {1, 2, 99, 100}) {
            Check.due("pass(" + days + ")", days, new ProgramSchool().pass(days));
        }
    }

    private static void todayThen() {
        ProgramSchool school = new ProgramSchool();
        for (int day = 10; day <= 1000; day += 10) {
            Check.due("pass", day, school.pass(10));
        }
    }

    private static void daysRefused() {
        ProgramSchool school = new ProgramSchool();
        for (int day : new int[] {0, 1, 900, 1000}) {
            Schools.passTo(school, day);
            for (int days : new int[] {0, -1, 101, 102, LEAST, GREATEST}) {
                Check.throwsArgument("pass(" + days + ") on day " + day, () -> school.pass(days));
            }
            Check.due("today", day, school.today());
        }
    }

    private static void lastDay() {
        ProgramSchool school = new ProgramSchool();
        Schools.passTo(school, 901);
        Check.throwsState("100 days from 901 on", () -> school.pass(100));
        Check.due("99 days from 901 on", 1000, school.pass(99));
        Check.throwsState("1 day from 1000 on", () -> school.pass(1));
        Check.throwsState("100 days from 1000 on", () -> school.pass(100));
        Check.due("today", 1000, school.today());
        ProgramSchool other = new ProgramSchool();
        Schools.passTo(other, 900);
        Check.due("100 days from 900 on", 1000, other.pass(100));
        ProgramSchool third = new ProgramSchool();
        Schools.passTo(third, 999);
        Check.throwsState("2 days from 999 on", () -> third.pass(2));
        Check.due("1 day from 999 on", 1000, third.pass(1));
    }

    private static void today() {
        ProgramSchool school = new ProgramSchool();
        Check.due("at first", 0, school.today());
        school.pass(1);
        Check.due("then", 1, school.today());
        Check.throwsArgument("a refused pass", () -> school.pass(0));
        Check.due("after a refused pass", 1, school.today());
        Schools.passTo(school, 1000);
        Check.due("at last", 1000, school.today());
        Check.throwsState("a refused pass", () -> school.pass(1));
        Check.due("after a refused pass", 1000, school.today());
    }
}
