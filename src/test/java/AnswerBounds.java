/** The bounds of answers and marks: the sentences of "Exercises and answers" and of promises 21 to 29. */
final class AnswerBounds {
    private static final int DONE = ProgramSchool.DONE, NONE = ProgramSchool.NONE;
    private static final int LEAST = Schools.LEAST, GREATEST = Schools.GREATEST;
    private static final int MOST_ANSWERS = 30;

    /** A call for an answer. */
    private interface OfAnswer {
        int get(ProgramSchool school, int answer);
    }

    private AnswerBounds() {
    }

    static void test() {
        terms();
        hand();
        Sentence.section("Promise 22: answers");
        Sentence.holds("Returns how many answers there are.", AnswerBounds::answers);
        passesAndEndOf();
        pointsAndMarks();
        Sentence.section("Promise 28: best");
        Sentence.holds("Returns the mark of a pupil in an exercise.", AnswerBounds::greatest);
        Sentence.holds("- `pupil`: 0 to 5", AnswerBounds::bestOfPupil);
        Sentence.holds("- `exercise`: an exercise", AnswerBounds::bestOfExercise);
        Sentence.holds("Returns the mark; NONE without an answer.", AnswerBounds::bestOfNone);
        Sentence.holds("Throws `IndexOutOfBoundsException` if there is no such pupil or exercise", AnswerBounds::bestRefused);
        Sentence.section("Promise 29: passed");
        Sentence.holds("Returns how many answers pass a test.", AnswerBounds::passed);
        Sentence.holds("- `exercise`: an exercise", AnswerBounds::passedOfExercise);
        Sentence.holds("- `test`: a test of it, withdrawn or not", AnswerBounds::passedOfTest);
        Sentence.holds("Throws `IndexOutOfBoundsException` if there is no such exercise or test", AnswerBounds::passedRefused);
    }

    private static void terms() {
        Sentence.section("Exercises and answers");
        Sentence.holds("Exercises are numbered from 0, at most 4;", AnswerBounds::exercises);
        Sentence.holds("an exercise has fuel for each run, and a day on which it is due.", AnswerBounds::fuelAndDue);
        Sentence.holds("Its tests are numbered from 0, at most 8;", AnswerBounds::tests);
        Sentence.holds("a test has a weight, two inputs, and a row of expected outputs.", AnswerBounds::whatATestHas);
        Sentence.holds("Days are numbered from 0; today is the day 0 at first.", AnswerBounds::days);
        Sentence.holds("Answers are numbered from 0, at most 30;", AnswerBounds::mostAnswers);
        Sentence.holds("an answer is the draft without faults, handed in by a pupil, 0 to 5, for an exercise, on a day.", AnswerBounds::whatAnAnswerIs);
        Sentence.holds("It passes a test if its run with the test's inputs is DONE,", AnswerBounds::passesIfDone);
        Sentence.holds("and its outputs are those that are expected, in their order.", AnswerBounds::passesByOutputs);
        Sentence.holds("A test that was withdrawn is none any more for marks.", AnswerBounds::withdrawn);
        Sentence.holds("The points of an answer are 100 times the weights of the tests that it passes, divided by the weights of all tests, rounded down;", AnswerBounds::points);
        Sentence.holds("0 if there is no test.", AnswerBounds::pointsWithoutTest);
        Sentence.holds("Its mark is that, less 10 percent of it for each day that it was late, but 50 percent at most:", AnswerBounds::late);
        Sentence.holds("the points times 100 less these percents, divided by 100, rounded down;", AnswerBounds::markRounded);
        Sentence.holds("0 if it is struck.", AnswerBounds::markOfStruck);
        Sentence.holds("The mark of a pupil in an exercise is the greatest one of the pupil's answers to it.", AnswerBounds::greatest);
    }

    private static void hand() {
        Sentence.section("Promise 21: hand");
        Sentence.holds("Hands the draft in, which stays.", AnswerBounds::draftStays);
        Sentence.holds("- `pupil`: 0 to 5", AnswerBounds::handOfPupil);
        Sentence.holds("- `exercise`: an exercise", AnswerBounds::handForExercise);
        Sentence.holds("Returns the number of the answer.", AnswerBounds::answerNumber);
        Sentence.holds("Throws `IndexOutOfBoundsException` if there is no such pupil or exercise", AnswerBounds::handRefused);
        Sentence.holds("Throws `IllegalStateException` if the draft has a fault, or there are 30 answers", AnswerBounds::handOfFault);
    }

    private static void passesAndEndOf() {
        OfAnswer passes = (school, answer) -> school.passes(answer, 0) ? 1 : 0;
        Sentence.section("Promise 23: passes");
        Sentence.holds("Tells whether an answer passes a test, withdrawn or not.", AnswerBounds::passesWithdrawn);
        Sentence.holds("- `answer`: an answer", () -> everyAnswer(passes, 1, 0));
        Sentence.holds("- `test`: a test of its exercise", AnswerBounds::passesOfTest);
        Sentence.holds("Throws `IndexOutOfBoundsException` if there is no such answer or test", () -> {
            noSuchAnswer(passes);
            noSuchTest(true);
        });
        Sentence.section("Promise 24: endOf");
        Sentence.holds("Returns how the run of an answer for a test ends.", AnswerBounds::endOfWithdrawn);
        Sentence.holds("- `answer`: an answer", () -> everyAnswer((school, answer) -> school.endOf(answer, 0), DONE, ProgramSchool.DIVISION));
        Sentence.holds("- `test`: a test of its exercise", AnswerBounds::endOfTest);
        Sentence.holds("Returns DONE, FUEL, OVERFLOW, DIVISION, CELL, INPUT, OUTPUT or DEPTH.", AnswerBounds::ends);
        Sentence.holds("Throws `IndexOutOfBoundsException` if there is no such answer or test", () -> {
            noSuchAnswer((school, answer) -> school.endOf(answer, 0));
            noSuchTest(false);
        });
    }

    private static void pointsAndMarks() {
        Sentence.section("Promise 25: points");
        Sentence.holds("Returns the points of an answer.", AnswerBounds::points);
        ofAnswer(ProgramSchool::points, 100);
        Sentence.section("Promise 26: mark");
        Sentence.holds("Returns the mark of an answer.", AnswerBounds::late);
        ofAnswer(ProgramSchool::mark, 50);
        Sentence.section("Promise 27: markAnew");
        Sentence.holds("Returns the same, found by running the answer for all tests once more, in the other way.", AnswerBounds::markAnew);
        ofAnswer(ProgramSchool::markAnew, 50);
    }

    private static void ofAnswer(OfAnswer call, int passing) {
        Sentence.holds("- `answer`: an answer", () -> everyAnswer(call, passing, 0));
        Sentence.holds("Returns 0 to 100.", () -> from0To100(call));
        Sentence.holds("Throws `IndexOutOfBoundsException` if there is no such answer", () -> noSuchAnswer(call));
    }

    /** 30 answers, late, of which every other one passes the test. */
    private static void everyAnswer(OfAnswer call, int passing, int failing) {
        ProgramSchool school = Schools.due(0);
        school.pass(6);
        school.addTest(0, 1, 0, 0, 1, 1, 0);
        for (int i = 0; i < MOST_ANSWERS; i++) {
            Schools.hand(school, i % 6, 0, i % 2 == 0 ? "out 1;" : "out 1/0;");
        }
        for (int i = 0; i < MOST_ANSWERS; i++) {
            Check.due("of the answer " + i, i % 2 == 0 ? passing : failing, call.get(school, i));
        }
    }

    private static void from0To100(OfAnswer call) {
        ProgramSchool school = Schools.handed("out 1;", "out 2;");
        Schools.expect(school, 0, 10, 1);
        Check.due("of one that passes all", 100, call.get(school, 0));
        Check.due("of one that passes none", 0, call.get(school, 1));
        Schools.expect(school, 0, 10, 1);
        Schools.expect(school, 0, 1, 2);
        Check.due("of one that passes 20 of 21", 95, call.get(school, 0));
        Check.due("of one that passes 1 of 21", 4, call.get(school, 1));
        for (int i = 0; i < 5; i++) {
            Schools.expect(school, 0, 10, 1);
        }
        Check.due("of one that passes 70 of 71", 98, call.get(school, 0));
        Check.due("of one that passes 1 of 71", 1, call.get(school, 1));
    }

    private static void noSuchAnswer(OfAnswer call) {
        ProgramSchool school = new ProgramSchool();
        Check.throwsIndex("without exercises", () -> call.get(school, 0));
        school.addExercise(9, 0);
        Schools.expect(school, 0, 1, 0);
        for (int count = 0; count <= MOST_ANSWERS; count++) {
            for (int answer : new int[] {-1, count, count + 1, MOST_ANSWERS, LEAST, GREATEST}) {
                Check.throwsIndex("the answer " + answer + " of " + count, () -> call.get(school, answer));
            }
            if (count < MOST_ANSWERS) {
                school.hand(0, 0);
                Check.due("the last answer", "0", Check.answer(() -> call.get(school, school.answers() - 1)));
            }
        }
    }

    private static void noSuchTest(boolean isPasses) {
        OfAnswer first = isPasses ? (school, test) -> school.passes(0, test) ? 1 : 0 : (school, test) -> school.endOf(0, test);
        OfAnswer second = isPasses ? (school, test) -> school.passes(1, test) ? 1 : 0 : (school, test) -> school.endOf(1, test);
        ProgramSchool school = Schools.due(0);
        school.addExercise(9, 0);
        school.hand(0, 0);
        school.hand(0, 1);
        for (int count = 0; count <= 8; count++) {
            for (int test : new int[] {-1, count, count + 1, 8, LEAST, GREATEST}) {
                Check.throwsIndex("the test " + test + " of " + count, () -> first.get(school, test));
            }
            Check.throwsIndex("a test of the exercise without one", () -> second.get(school, 0));
            if (count < 8) {
                school.addTest(0, 1, 0, 0, 1, 1, 0);
                Check.due("the last test", 0, first.get(school, count));
            }
        }
        school.withdraw(0, 7);
        Check.due("a test that was withdrawn", 0, first.get(school, 7));
    }

    private static void exercises() {
        ProgramSchool school = new ProgramSchool();
        for (int i = 0; i < 4; i++) {
            Check.due("number", i, school.addExercise(1, 0));
        }
        Check.throwsState("one too many", () -> school.addExercise(1, 0));
    }

    private static void fuelAndDue() {
        ProgramSchool school = new ProgramSchool();
        school.addExercise(2, 0);
        school.addExercise(3, 3);
        school.pass(2);
        for (int exercise = 0; exercise < 2; exercise++) {
            school.addTest(exercise, 1, 1, 2, 2, 1, 2);
            school.addTest(exercise, 1, 0, 0, 0, 0, 0);
            Schools.hand(school, 0, exercise, "if in{out 1;out 2;}");
        }
        Check.due("fuel 2 for a run of 4", ProgramSchool.FUEL, school.endOf(0, 0));
        Check.due("fuel 2 for a run of 2", DONE, school.endOf(0, 1));
        Check.due("fuel 3 for a run of 4", ProgramSchool.FUEL, school.endOf(1, 0));
        Check.due("mark of one that is late", 40, school.mark(0));
        Check.due("mark of one that is not", 50, school.mark(1));
    }

    private static void tests() {
        ProgramSchool school = Schools.due(0);
        for (int i = 0; i < 8; i++) {
            Check.due("number", i, Schools.expect(school, 0, 1, i));
        }
        Check.throwsState("one too many", () -> Schools.expect(school, 0, 1, 0));
        Schools.hand(school, 0, 0, "out 7;");
        for (int i = 0; i < 8; i++) {
            Check.due("passes the test " + i, i == 7, school.passes(0, i));
        }
    }

    private static void whatATestHas() {
        ProgramSchool school = Schools.handed("out in-in;", "out in;out in;", "");
        school.addTest(0, 3, 7, 5, 1, 2, 0);
        school.addTest(0, 5, 5, 7, 2, 5, 7);
        school.addTest(0, 2, 1, 1, 0, 1, 1);
        Check.due("points by the first one", 30, school.points(0));
        Check.due("points by the second one", 50, school.points(1));
        Check.due("points by the third one", 20, school.points(2));
    }

    private static void days() {
        ProgramSchool school = new ProgramSchool();
        Check.due("today at first", 0, school.today());
        Check.throwsArgument("the day -1", () -> school.addExercise(1, -1));
        Check.due("the day 0", 0, school.addExercise(1, 0));
        Check.due("the next day", 1, school.pass(1));
    }

    private static void mostAnswers() {
        ProgramSchool school = Schools.due(0);
        for (int i = 0; i < MOST_ANSWERS; i++) {
            Check.due("number", i, school.hand(i % 6, 0));
        }
        Check.throwsState("one too many", () -> school.hand(0, 0));
        Check.due("answers", 30, school.answers());
        Check.due("the last one", 0, school.mark(29));
        Check.throwsIndex("behind the last one", () -> school.mark(30));
    }

    private static void whatAnAnswerIs() {
        ProgramSchool school = Schools.due(1);
        Schools.expect(school, 0, 1, 1);
        Schools.hand(school, 0, 0, "out 1;");
        Texts.set(school, "out 2;");
        Check.due("another draft is another thing", true, school.passes(0, 0));
        school.erase(1);
        Check.throwsState("a draft with a fault", () -> school.hand(0, 0));
        Check.throwsIndex("pupil -1", () -> school.hand(-1, 0));
        Check.throwsIndex("pupil 6", () -> school.hand(6, 0));
        school.pass(3);
        Schools.hand(school, 5, 0, "out 1;");
        Check.due("mark of the day 0", 100, school.mark(0));
        Check.due("mark of the day 3", 80, school.mark(1));
        Check.due("mark of the pupil 0", 100, school.best(0, 0));
        Check.due("mark of the pupil 5", 80, school.best(5, 0));
    }

    private static void passesIfDone() {
        ProgramSchool school = Schools.due(0);
        school.addTest(0, 1, 5, 9, 1, 5, 0);
        school.addTest(0, 1, 5, 9, 0, 0, 0);
        String[] texts = {"out in;", "while 1{}", "a=2147483647+1;", "a=1/0;", "a=#32;", "a=in+in+in;", "", "f();def f(){f();}"};
        for (int end = DONE; end <= ProgramSchool.DEPTH; end++) {
            if (end == ProgramSchool.OUTPUT) {
                continue;
            }
            int fine = Schools.hand(school, 0, 0, "out in;");
            Check.due("passes as it is DONE", true, school.passes(fine, 0));
            if (end != DONE) {
                int answer = Schools.hand(school, 0, 0, "out in;" + texts[end]);
                Check.due("end of " + texts[end], end, school.endOf(answer, 0));
                Check.due("passes with the outputs by " + texts[end], false, school.passes(answer, 0));
                int none = Schools.hand(school, 0, 0, texts[end]);
                Check.due("end of " + texts[end], end, school.endOf(none, 1));
                Check.due("passes without outputs by " + texts[end], false, school.passes(none, 1));
                Check.due("mark anew", 0, school.markAnew(none));
            }
        }
        Check.due("passes without outputs", true, school.passes(Schools.hand(school, 0, 0, "a=in;"), 1));
    }

    private static void passesByOutputs() {
        ProgramSchool school = Schools.handed("", "out 1;", "out 2;", "out 1;out 2;", "out 2;out 1;", "out 1;out 2;out 3;", "out 1;out 1;");
        school.addTest(0, 1, 0, 0, 0, 1, 2);
        school.addTest(0, 1, 0, 0, 1, 1, 2);
        school.addTest(0, 1, 0, 0, 2, 1, 2);
        school.addTest(0, 1, 0, 0, 2, 1, 1);
        int[] passed = {0, 1, -1, 2, -1, -1, 3};
        for (int answer = 0; answer < passed.length; answer++) {
            for (int test = 0; test < 4; test++) {
                Check.due("the answer " + answer + " passes the test " + test, passed[answer] == test, school.passes(answer, test));
            }
            Check.due("points of the answer " + answer, passed[answer] < 0 ? 0 : 25, school.points(answer));
            Check.due("mark anew of the answer " + answer, passed[answer] < 0 ? 0 : 25, school.markAnew(answer));
        }
    }

    private static void withdrawn() {
        ProgramSchool school = Schools.handed("out 1;", "out 2;");
        Schools.expect(school, 0, 3, 1);
        Schools.expect(school, 0, 7, 2);
        Check.due("mark by both", 30, school.mark(0));
        Check.due("mark by both", 70, school.mark(1));
        school.withdraw(0, 1);
        Check.due("mark by the first one", 100, school.mark(0));
        Check.due("mark by the first one", 0, school.mark(1));
        Check.due("mark anew", 100, school.markAnew(0));
        Check.due("mark anew", 0, school.markAnew(1));
        Check.due("best", 0, school.best(1, 0));
        Schools.expect(school, 0, 1, 2);
        Check.due("mark by the first one and another", 75, school.mark(0));
        Check.due("mark by the first one and another", 25, school.mark(1));
        Check.due("mark of a later answer", 25, school.mark(Schools.hand(school, 2, 0, "out 2;")));
    }

    private static void points() {
        ProgramSchool school = Schools.handed("out 1;", "out 2;", "out 3;");
        Schools.expect(school, 0, 1, 1);
        Schools.expect(school, 0, 2, 2);
        Check.due("1 of 3, 33 and a third", 33, school.points(0));
        Check.due("2 of 3, 66 and two thirds", 66, school.points(1));
        Check.due("0 of 3", 0, school.points(2));
        Schools.expect(school, 0, 1, 1);
        Check.due("2 of 4", 50, school.points(0));
        Schools.expect(school, 0, 10, 3);
        Check.due("2 of 14", 14, school.points(0));
        Check.due("10 of 14", 71, school.points(2));
        school.withdraw(0, 1);
        Check.due("2 of 12", 16, school.points(0));
        Check.due("0 of 12", 0, school.points(1));
        Check.due("10 of 12", 83, school.points(2));
        // Neither being late nor being struck is anything to the points.
        school.pass(100);
        Check.due("2 of 12", 16, school.points(0));
    }

    private static void pointsWithoutTest() {
        ProgramSchool school = Schools.handed("out 1;");
        Check.due("points", 0, school.points(0));
        Check.due("mark", 0, school.mark(0));
        Check.due("mark anew", 0, school.markAnew(0));
        Check.due("best", 0, school.best(0, 0));
        Schools.expect(school, 0, 1, 1);
        Check.due("points with one", 100, school.points(0));
        school.withdraw(0, 0);
        Check.due("points when it is withdrawn", 0, school.points(0));
        Check.due("mark anew then", 0, school.markAnew(0));
    }

    private static void late() {
        ProgramSchool school = Schools.due(2);
        Schools.expect(school, 0, 1, 1);
        int[] marks = {100, 100, 100, 90, 80, 70, 60, 50, 50, 50};
        for (int day = 0; day < marks.length; day++) {
            Schools.hand(school, 0, 0, "out 1;");
            school.pass(1);
        }
        Schools.passTo(school, 1000);
        Schools.hand(school, 1, 0, "out 1;");
        for (int day = 0; day < marks.length; day++) {
            Check.due("mark of the day " + day, marks[day], school.mark(day));
            Check.due("mark anew of the day " + day, marks[day], school.markAnew(day));
            Check.due("points of the day " + day, 100, school.points(day));
        }
        Check.due("mark of the last day", 50, school.mark(marks.length));
        Check.due("mark anew of the last day", 50, school.markAnew(marks.length));
        ProgramSchool last = Schools.due(1000);
        Schools.expect(last, 0, 1, 1);
        Schools.passTo(last, 1000);
        Check.due("mark of one that is due on the last day", 100, last.mark(Schools.hand(last, 0, 0, "out 1;")));
    }

    private static void markRounded() {
        ProgramSchool school = Schools.due(0);
        Schools.expect(school, 0, 2, 1);
        Schools.expect(school, 0, 1, 2);
        // 66 points and 33 points.
        int[] first = {66, 59, 52, 46, 39, 33, 33};
        int[] second = {33, 29, 26, 23, 19, 16, 16};
        for (int day = 0; day < first.length; day++) {
            int answer = Schools.hand(school, 0, 0, "out 1;");
            Check.due("mark of 66 points, " + day + " days late", first[day], school.mark(answer));
            Check.due("mark anew", first[day], school.markAnew(answer));
            int other = Schools.hand(school, 0, 0, "out 2;");
            Check.due("mark of 33 points, " + day + " days late", second[day], school.mark(other));
            Check.due("mark anew", second[day], school.markAnew(other));
            school.pass(1);
        }
    }

    private static ProgramSchool struck() {
        ProgramSchool school = Schools.handed("a=1;b=1;out 1;", "a=1;b=1;out 1;");
        Schools.expect(school, 0, 1, 1);
        school.accuse(1, 0);
        return school;
    }

    private static void markOfStruck() {
        ProgramSchool school = struck();
        Check.due("mark", 0, school.mark(1));
        Check.due("mark anew", 0, school.markAnew(1));
        Check.due("best", 0, school.best(1, 0));
        Check.due("mark of the other one", 100, school.mark(0));
        Check.due("points", 100, school.points(1));
        Check.due("passes", true, school.passes(1, 0));
        Check.due("passed", 2, school.passed(0, 0));
        school.clear(1);
        Check.due("mark when it is cleared", 100, school.mark(1));
        Check.due("mark anew when it is cleared", 100, school.markAnew(1));
    }

    private static void greatest() {
        ProgramSchool school = Schools.due(0);
        school.addExercise(9, 0);
        for (int exercise = 0; exercise < 2; exercise++) {
            Schools.expect(school, exercise, 2, 1);
            Schools.expect(school, exercise, 3, 2);
            Schools.expect(school, exercise, 5, 3);
        }
        Schools.hand(school, 0, 0, "out 2;");
        Check.due("of one", 30, school.best(0, 0));
        Schools.hand(school, 0, 0, "out 1;");
        Check.due("the first is greater", 30, school.best(0, 0));
        Schools.hand(school, 0, 0, "out 3;");
        Check.due("the last is greater", 50, school.best(0, 0));
        Schools.hand(school, 0, 0, "out 4;");
        Check.due("the last but one is greater", 50, school.best(0, 0));
        Schools.hand(school, 1, 0, "out 1;");
        Schools.hand(school, 0, 1, "out 1;");
        Check.due("of another pupil", 20, school.best(1, 0));
        Check.due("in another exercise", 20, school.best(0, 1));
        Check.due("the others are nothing to it", 50, school.best(0, 0));
        school.pass(5);
        Schools.hand(school, 2, 0, "out 3;");
        Check.due("of one that is late", 25, school.best(2, 0));
        school.withdraw(0, 2);
        Check.due("without a test", 60, school.best(0, 0));
        Check.due("without a test", 0, school.best(2, 0));
    }

    private static void draftStays() {
        ProgramSchool school = Texts.school("out 1;");
        school.addExercise(9, 0);
        Schools.expect(school, 0, 1, 1);
        school.hand(0, 0);
        Check.due("the draft", "out 1;", Texts.draft(school));
        Check.due("its parts", 1, school.draftParts());
        Check.due("its trial", DONE, school.trial(9, 0, 0));
        Check.due("hand once more", 1, school.hand(1, 0));
        Check.due("passes", true, school.passes(1, 0));
        Check.due("write behind it", 12, school.write(Texts.packed("out 2;")));
        Check.due("hand once more", 2, school.hand(2, 0));
        Check.due("the longer one", false, school.passes(2, 0));
        Check.due("the first one", true, school.passes(0, 0));
        Check.due("the first one anew", 100, school.markAnew(0));
        Check.due("wipe", 12, school.wipe());
        Check.due("parts of the first one", 1, school.parts(0));
        Check.due("an empty one", 3, school.hand(0, 0));
        Check.due("parts of an empty one", 0, school.parts(3));
    }

    private static void handOfPupil() {
        ProgramSchool school = Schools.due(0);
        for (int pupil = 0; pupil < 6; pupil++) {
            Check.due("best before", NONE, school.best(pupil, 0));
            Check.due("hand", pupil, school.hand(pupil, 0));
            Check.due("best", 0, school.best(pupil, 0));
        }
        Check.throwsIndex("pupil 6", () -> school.hand(6, 0));
    }

    private static void handForExercise() {
        ProgramSchool school = new ProgramSchool();
        for (int exercise = 0; exercise < 4; exercise++) {
            int next = exercise;
            Check.throwsIndex("hand before", () -> school.hand(0, next));
            school.addExercise(9, 0);
            Check.due("hand", exercise, school.hand(0, exercise));
            Check.due("best", 0, school.best(0, exercise));
        }
    }

    private static void answerNumber() {
        ProgramSchool school = Schools.due(0);
        school.addExercise(9, 0);
        for (int i = 0; i < MOST_ANSWERS; i++) {
            Check.throwsIndex("a refused one has none", () -> school.hand(6, 0));
            Check.due("number", i, school.hand(i % 6, i % 2));
        }
    }

    private static void handRefused() {
        ProgramSchool none = new ProgramSchool();
        Check.throwsIndex("without exercises", () -> none.hand(0, 0));
        ProgramSchool school = Schools.due(0);
        for (int pupil : new int[] {-1, 6, 7, LEAST, GREATEST}) {
            Check.throwsIndex("pupil " + pupil, () -> school.hand(pupil, 0));
        }
        for (int exercise : new int[] {-1, 1, 2, 4, LEAST, GREATEST}) {
            Check.throwsIndex("exercise " + exercise, () -> school.hand(0, exercise));
        }
        Check.due("answers", 0, school.answers());
        Check.due("hand", 0, school.hand(0, 0));
        Check.due("hand", 1, school.hand(5, 0));
    }

    private static void handOfFault() {
        ProgramSchool school = Schools.due(0);
        for (int fault = ProgramSchool.SIGN; fault <= ProgramSchool.COUNT; fault++) {
            Texts.set(school, DraftBounds.FAULTY[fault]);
            Check.throwsState("hand of " + DraftBounds.FAULTY[fault], () -> school.hand(0, 0));
        }
        Check.due("answers", 0, school.answers());
        Texts.set(school, "a=1;");
        for (int i = 0; i < MOST_ANSWERS; i++) {
            Check.due("hand", i, school.hand(0, 0));
        }
        Check.throwsState("a 31st", () -> school.hand(0, 0));
        Check.throwsState("a 31st of another pupil", () -> school.hand(5, 0));
        Check.due("answers", 30, school.answers());
    }

    private static void answers() {
        ProgramSchool school = new ProgramSchool();
        Check.due("without exercises", 0, school.answers());
        school.addExercise(9, 0);
        for (int i = 0; i < MOST_ANSWERS; i++) {
            Check.due("answers", i, school.answers());
            school.hand(0, 0);
        }
        Check.due("answers", 30, school.answers());
        Check.throwsState("a 31st", () -> school.hand(0, 0));
        Check.due("answers after a refused one", 30, school.answers());
        ProgramSchool struck = struck();
        Check.due("struck ones count", 2, struck.answers());
    }

    private static void passesWithdrawn() {
        ProgramSchool school = Schools.handed("out 1;", "out 2;");
        Schools.expect(school, 0, 1, 1);
        for (int i = 0; i < 2; i++) {
            Check.due("one that passes", true, school.passes(0, 0));
            Check.due("one that does not", false, school.passes(1, 0));
            if (i == 0) {
                school.withdraw(0, 0);
            }
        }
        Check.due("a later one that passes", true, school.passes(Schools.hand(school, 0, 0, "out 1;"), 0));
        Check.due("a later one that does not", false, school.passes(Schools.hand(school, 0, 0, "out 2;"), 0));
    }

    private static void passesOfTest() {
        ProgramSchool school = Schools.handed("out 7;");
        school.addExercise(9, 0);
        school.hand(0, 1);
        for (int i = 0; i < 8; i++) {
            Schools.expect(school, 0, 1, i);
            Schools.expect(school, 1, 1, 7 - i);
        }
        for (int i = 0; i < 8; i++) {
            Check.due("the test " + i, i == 7, school.passes(0, i));
            Check.due("the test " + i + " of the other exercise", i == 0, school.passes(1, i));
        }
    }

    private static void endOfWithdrawn() {
        ProgramSchool school = Schools.handed("out 1/in;");
        school.addTest(0, 1, 0, 1, 0, 0, 0);
        school.addTest(0, 1, 1, 0, 0, 0, 0);
        for (int i = 0; i < 3; i++) {
            Check.due("by 0", ProgramSchool.DIVISION, school.endOf(0, 0));
            Check.due("by 1", DONE, school.endOf(0, 1));
            if (i < 2) {
                school.withdraw(0, i);
            }
        }
        int later = Schools.hand(school, 0, 0, "out in/in;");
        Check.due("a later one by 1", DONE, school.endOf(later, 0));
        Check.due("a later one by 0", ProgramSchool.DIVISION, school.endOf(later, 1));
    }

    private static void endOfTest() {
        ProgramSchool school = Schools.handed("out 1/(in-7);");
        school.addExercise(9, 0);
        school.hand(0, 1);
        for (int i = 0; i < 8; i++) {
            school.addTest(0, 1, i, 0, 0, 0, 0);
            school.addTest(1, 1, 7 - i, 0, 0, 0, 0);
        }
        for (int i = 0; i < 8; i++) {
            Check.due("the test " + i, i == 7 ? ProgramSchool.DIVISION : DONE, school.endOf(0, i));
            Check.due("the test " + i + " of the other exercise", i == 0 ? ProgramSchool.DIVISION : DONE, school.endOf(1, i));
        }
    }

    private static void ends() {
        ProgramSchool before = Schools.due(0);
        ProgramSchool behind = Schools.due(0);
        before.addTest(0, 1, 5, 9, 0, 0, 0);
        for (int end = DONE; end <= ProgramSchool.DEPTH; end++) {
            Schools.hand(before, 0, 0, RunBounds.ENDING[end]);
            Schools.hand(behind, 0, 0, RunBounds.ENDING[end]);
        }
        behind.addTest(0, 1, 5, 9, 0, 0, 0);
        for (int end = DONE; end <= ProgramSchool.DEPTH; end++) {
            Check.due("end of " + RunBounds.ENDING[end], end, before.endOf(end, 0));
            Check.due("end of " + RunBounds.ENDING[end] + " for a test added later", end, behind.endOf(end, 0));
        }
    }

    private static void markAnew() {
        ProgramSchool school = Schools.due(1);
        String[] texts = {"out in+in;", "out 3;", "a=in;out a+1;if a{out 1;}", "", "while 1{}", "out f(in);def f(a){return a*3;}"};
        for (int i = 0; i < texts.length; i++) {
            Schools.hand(school, i, 0, texts[i]);
            school.pass(1);
        }
        int[][] tests = {{3, 1, 2, 1, 3, 0}, {5, 0, 3, 1, 3, 0}, {7, 2, 1, 2, 3, 1}, {9, 4, 4, 0, 0, 0}};
        for (int[] each : tests) {
            school.addTest(0, each[0], each[1], each[2], each[3], each[4], each[5]);
            for (int i = 0; i < texts.length; i++) {
                Check.due("of " + texts[i], school.mark(i), school.markAnew(i));
            }
        }
        for (int test = 0; test < tests.length; test++) {
            school.withdraw(0, test);
            for (int i = 0; i < texts.length; i++) {
                Check.due("of " + texts[i] + " without tests", school.mark(i), school.markAnew(i));
            }
        }
        Check.due("of a struck one", 0, struck().markAnew(1));
    }

    private static void bestOfPupil() {
        ProgramSchool school = Schools.due(0);
        Schools.expect(school, 0, 1, 1);
        Schools.expect(school, 0, 3, 2);
        for (int pupil = 0; pupil < 6; pupil++) {
            Schools.hand(school, pupil, 0, pupil % 2 == 0 ? "out 1;" : "out 2;");
        }
        for (int pupil = 0; pupil < 6; pupil++) {
            Check.due("of the pupil " + pupil, pupil % 2 == 0 ? 25 : 75, school.best(pupil, 0));
        }
    }

    private static void bestOfExercise() {
        ProgramSchool school = new ProgramSchool();
        Texts.append(school, "out 1;");
        for (int i = 0; i < 4; i++) {
            school.addExercise(9, 0);
            Schools.expect(school, i, 1, 1);
            Schools.expect(school, i, i + 1, 2);
            school.hand(3, i);
        }
        int[] marks = {50, 33, 25, 20};
        for (int i = 0; i < 4; i++) {
            Check.due("in the exercise " + i, marks[i], school.best(3, i));
        }
    }

    private static void bestOfNone() {
        ProgramSchool school = Schools.due(0);
        school.addExercise(9, 0);
        Check.due("without answers", NONE, school.best(0, 0));
        Schools.hand(school, 0, 0, "out 1;");
        Check.due("with an answer of 0 points", 0, school.best(0, 0));
        Check.due("of another pupil", NONE, school.best(1, 0));
        Check.due("in another exercise", NONE, school.best(0, 1));
        ProgramSchool struck = struck();
        Check.due("with a struck answer alone", 0, struck.best(1, 0));
    }

    private static void bestRefused() {
        ProgramSchool none = new ProgramSchool();
        Check.throwsIndex("without exercises", () -> none.best(0, 0));
        ProgramSchool school = Schools.due(0);
        for (int pupil : new int[] {-1, 6, 7, LEAST, GREATEST}) {
            Check.throwsIndex("pupil " + pupil, () -> school.best(pupil, 0));
        }
        for (int exercise : new int[] {-1, 1, 2, 4, LEAST, GREATEST}) {
            Check.throwsIndex("exercise " + exercise, () -> school.best(0, exercise));
        }
        Check.due("pupil 0", NONE, school.best(0, 0));
        Check.due("pupil 5", NONE, school.best(5, 0));
    }

    private static void passed() {
        ProgramSchool school = Schools.due(0);
        Schools.expect(school, 0, 1, 1);
        Check.due("without answers", 0, school.passed(0, 0));
        for (int i = 0; i < MOST_ANSWERS; i++) {
            Schools.hand(school, i % 6, 0, i % 3 == 0 ? "out 2;" : "out 1;");
            Check.due("passed", i - i / 3, school.passed(0, 0));
        }
        Check.due("passed of a test added later", 10, school.passed(0, Schools.expect(school, 0, 1, 2)));
        Check.due("passed of a test that none passes", 0, school.passed(0, Schools.expect(school, 0, 1, 3)));
        Check.due("with one that is struck", 2, struck().passed(0, 0));
    }

    private static void passedOfExercise() {
        ProgramSchool school = Texts.school("out 1;");
        for (int i = 0; i < 4; i++) {
            school.addExercise(9, 0);
            Schools.expect(school, i, 1, 1);
            for (int j = 0; j <= i; j++) {
                school.hand(j, i);
            }
        }
        for (int i = 0; i < 4; i++) {
            Check.due("in the exercise " + i, i + 1, school.passed(i, 0));
        }
    }

    private static void passedOfTest() {
        ProgramSchool school = Schools.handed("out 0;", "out 7;", "out 7;");
        for (int i = 0; i < 8; i++) {
            Schools.expect(school, 0, 1, i);
        }
        for (int withdrawn = -1; withdrawn < 8; withdrawn++) {
            if (withdrawn >= 0) {
                school.withdraw(0, withdrawn);
            }
            for (int i = 0; i < 8; i++) {
                Check.due("the test " + i, i == 0 ? 1 : i == 7 ? 2 : 0, school.passed(0, i));
            }
        }
        Schools.hand(school, 0, 0, "out 7;");
        Check.due("a withdrawn test with a later answer", 3, school.passed(0, 7));
    }

    private static void passedRefused() {
        ProgramSchool none = new ProgramSchool();
        Check.throwsIndex("without exercises", () -> none.passed(0, 0));
        ProgramSchool school = Schools.due(0);
        school.addExercise(9, 0);
        for (int count = 0; count <= 8; count++) {
            for (int test : new int[] {-1, count, count + 1, 8, LEAST, GREATEST}) {
                Check.throwsIndex("the test " + test + " of " + count, () -> school.passed(0, test));
            }
            for (int exercise : new int[] {-1, 2, 4, LEAST, GREATEST}) {
                Check.throwsIndex("the exercise " + exercise, () -> school.passed(exercise, 0));
            }
            Check.throwsIndex("the exercise without tests", () -> school.passed(1, 0));
            if (count < 8) {
                Check.due("the last test", 0, school.passed(0, Schools.expect(school, 0, 1, 0)));
            }
        }
    }
}
