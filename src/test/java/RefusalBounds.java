import java.util.ArrayList;
import java.util.List;

/** What calls throw: the sentences of "The desk" on exceptions. */
final class RefusalBounds {
    private static final int LEAST = Schools.LEAST, GREATEST = Schools.GREATEST;
    private static final String THREE = "a=1;b=in;out 1;";

    /** A school that is made anew for each call. */
    private interface Maker {
        ProgramSchool make();
    }

    private interface Call {
        int get(ProgramSchool school);
    }

    private RefusalBounds() {
    }

    static void test() {
        Sentence.section("The desk");
        Sentence.holds("An IndexOutOfBoundsException is thrown if there is no such place, output, exercise, test, pupil or answer,", RefusalBounds::indices);
        Sentence.holds("an IllegalArgumentException if another argument is out of its range,", RefusalBounds::arguments);
        Sentence.holds("an IllegalStateException as told.", RefusalBounds::states);
        Sentence.holds("If several exceptions of a throws clause apply, the one that is listed first is thrown.", RefusalBounds::listedFirst);
        Sentence.holds("A call that throws an exception changes nothing.", RefusalBounds::nothingChanges);
    }

    /** Two exercises, the first one with two tests, three answers, the last one struck, a trial, a draft. */
    private static ProgramSchool busy() {
        ProgramSchool school = new ProgramSchool();
        school.addExercise(100, 1);
        school.addExercise(50, 9);
        school.addTest(0, 3, 0, 0, 1, 1, 0);
        school.addTest(0, 4, 0, 0, 1, 2, 0);
        Texts.append(school, THREE);
        school.hand(0, 0);
        school.hand(1, 0);
        school.pass(3);
        school.hand(2, 0);
        school.accuse(2, 0);
        Texts.set(school, "#3=in;out in;");
        school.trial(30, 7, 8);
        return school;
    }

    /** A busy school with a fault in the draft. */
    private static ProgramSchool faulty() {
        ProgramSchool school = busy();
        school.write('$');
        return school;
    }

    /** As many exercises, tests, answers, days and signs as there can be. */
    private static ProgramSchool full() {
        ProgramSchool school = new ProgramSchool();
        for (int i = 0; i < 4; i++) {
            school.addExercise(100, 1000);
        }
        for (int i = 0; i < 8; i++) {
            school.addTest(0, 1, 0, 0, 1, i, 0);
        }
        school.withdraw(0, 7);
        Texts.append(school, THREE);
        for (int i = 0; i < 30; i++) {
            school.hand(i % 6, 0);
        }
        Schools.passTo(school, 1000);
        return school;
    }

    private static void indices() {
        ProgramSchool school = busy();
        for (int none : new int[] {-1, 13, LEAST, GREATEST}) {
            Check.throwsIndex("signAt " + none, () -> school.signAt(none));
        }
        for (int none : new int[] {-1, 1, LEAST, GREATEST}) {
            Check.throwsIndex("outputAt " + none, () -> school.outputAt(none));
        }
        for (int none : new int[] {-1, 32, LEAST, GREATEST}) {
            Check.throwsIndex("cellAt " + none, () -> school.cellAt(none));
        }
        for (int none : new int[] {-1, 2, LEAST, GREATEST}) {
            Check.throwsIndex("addTest to " + none, () -> school.addTest(none, 1, 0, 0, 0, 0, 0));
            Check.throwsIndex("withdraw of the exercise " + none, () -> school.withdraw(none, 0));
            Check.throwsIndex("withdraw of the test " + none, () -> school.withdraw(0, none));
            Check.throwsIndex("hand for " + none, () -> school.hand(0, none));
            Check.throwsIndex("best in " + none, () -> school.best(0, none));
            Check.throwsIndex("passed in " + none, () -> school.passed(none, 0));
            Check.throwsIndex("passed of " + none, () -> school.passed(0, none));
            Check.throwsIndex("passes of " + none, () -> school.passes(0, none) ? 1 : 0);
            Check.throwsIndex("endOf " + none, () -> school.endOf(0, none));
        }
        for (int none : new int[] {-1, 6, LEAST, GREATEST}) {
            Check.throwsIndex("hand of " + none, () -> school.hand(none, 0));
            Check.throwsIndex("best of " + none, () -> school.best(none, 0));
        }
        for (int none : new int[] {-1, 3, LEAST, GREATEST}) {
            indexOfAnswer(school, none);
        }
    }

    private static void indexOfAnswer(ProgramSchool school, int none) {
        Check.throwsIndex("passes " + none, () -> school.passes(none, 0) ? 1 : 0);
        Check.throwsIndex("endOf " + none, () -> school.endOf(none, 0));
        Check.throwsIndex("points " + none, () -> school.points(none));
        Check.throwsIndex("mark " + none, () -> school.mark(none));
        Check.throwsIndex("markAnew " + none, () -> school.markAnew(none));
        Check.throwsIndex("parts " + none, () -> school.parts(none));
        Check.throwsIndex("common " + none, () -> school.common(none, 0));
        Check.throwsIndex("common with " + none, () -> school.common(0, none));
        Check.throwsIndex("likeness " + none, () -> school.likeness(none, 0));
        Check.throwsIndex("likeness with " + none, () -> school.likeness(0, none));
        Check.throwsIndex("accuse " + none, () -> school.accuse(none, 0));
        Check.throwsIndex("accuse because of " + none, () -> school.accuse(1, none));
        Check.throwsIndex("clear " + none, () -> school.clear(none));
        Check.throwsIndex("doubt " + none, () -> school.doubt(none));
    }

    private static void arguments() {
        ProgramSchool school = busy();
        Check.throwsArgument("write", () -> school.write(31));
        Check.throwsArgument("erase", () -> school.erase(0));
        Check.throwsArgument("erase", () -> school.erase(14));
        Check.throwsArgument("trial", () -> school.trial(-1, 0, 0));
        Check.throwsArgument("trial", () -> school.trial(5001, 0, 0));
        Check.throwsArgument("trialByTree", () -> school.trialByTree(-1, 0, 0));
        Check.throwsArgument("trialByTree", () -> school.trialByTree(5001, 0, 0));
        Check.throwsArgument("addExercise with fuel", () -> school.addExercise(0, 3));
        Check.throwsArgument("addExercise with fuel", () -> school.addExercise(2001, 3));
        Check.throwsArgument("addExercise with due", () -> school.addExercise(1, 2));
        Check.throwsArgument("addExercise with due", () -> school.addExercise(1, 1001));
        Check.throwsArgument("addTest with weight", () -> school.addTest(0, 0, 0, 0, 0, 0, 0));
        Check.throwsArgument("addTest with weight", () -> school.addTest(0, 11, 0, 0, 0, 0, 0));
        Check.throwsArgument("addTest with count", () -> school.addTest(0, 1, 0, 0, -1, 0, 0));
        Check.throwsArgument("addTest with count", () -> school.addTest(0, 1, 0, 0, 3, 0, 0));
        Check.throwsArgument("pass", () -> school.pass(0));
        Check.throwsArgument("pass", () -> school.pass(101));
    }

    private static void states() {
        ProgramSchool faulty = faulty();
        Check.throwsState("draftParts", faulty::draftParts);
        Check.throwsState("trial", () -> faulty.trial(9, 0, 0));
        Check.throwsState("trialByTree", () -> faulty.trialByTree(9, 0, 0));
        Check.throwsState("hand", () -> faulty.hand(0, 0));
        ProgramSchool full = full();
        Check.throwsState("addExercise", () -> full.addExercise(1, 1000));
        Check.throwsState("addTest", () -> full.addTest(0, 1, 0, 0, 0, 0, 0));
        Check.throwsState("withdraw", () -> full.withdraw(0, 7));
        Check.throwsState("pass", () -> full.pass(1));
        Check.throwsState("hand", () -> full.hand(0, 0));
        ProgramSchool busy = busy();
        Check.throwsState("accuse a struck one", () -> busy.accuse(2, 1));
        Check.throwsState("accuse because of a later one", () -> busy.accuse(0, 1));
        Check.throwsState("clear", () -> busy.clear(0));
    }

    private static void listedFirst() {
        ProgramSchool faulty = faulty();
        for (int fuel : new int[] {-1, 5001, LEAST, GREATEST}) {
            Check.throwsArgument("trial: fuel and a fault", () -> faulty.trial(fuel, 0, 0));
            Check.throwsArgument("trialByTree: fuel and a fault", () -> faulty.trialByTree(fuel, 0, 0));
        }
        Check.throwsIndex("hand: a pupil and a fault", () -> faulty.hand(6, 0));
        Check.throwsIndex("hand: an exercise and a fault", () -> faulty.hand(0, 2));
        Check.throwsArgument("erase and write throw one only", () -> faulty.erase(0));
        ProgramSchool full = full();
        Check.throwsArgument("addExercise: fuel, and 4", () -> full.addExercise(0, 1000));
        Check.throwsArgument("addExercise: fuel, and 4", () -> full.addExercise(2001, 1000));
        Check.throwsArgument("addExercise: due, and 4", () -> full.addExercise(1, 999));
        Check.throwsArgument("addExercise: due, and 4", () -> full.addExercise(1, 1001));
        Check.throwsIndex("addTest: an exercise and weight", () -> full.addTest(4, 0, 0, 0, 0, 0, 0));
        Check.throwsIndex("addTest: an exercise and count", () -> full.addTest(-1, 1, 0, 0, 3, 0, 0));
        Check.throwsArgument("addTest: weight, and 8", () -> full.addTest(0, 0, 0, 0, 0, 0, 0));
        Check.throwsArgument("addTest: weight, and 8", () -> full.addTest(0, 11, 0, 0, 0, 0, 0));
        Check.throwsArgument("addTest: count, and 8", () -> full.addTest(0, 1, 0, 0, -1, 0, 0));
        Check.throwsArgument("addTest: count, and 8", () -> full.addTest(0, 1, 0, 0, 3, 0, 0));
        Check.throwsArgument("pass: days, and above 1000", () -> full.pass(101));
        Check.throwsArgument("pass: days, and above 1000", () -> full.pass(GREATEST));
        Check.throwsIndex("hand: a pupil, and 30", () -> full.hand(-1, 0));
        Check.throwsIndex("hand: an exercise, and 30", () -> full.hand(0, 4));
        full.write('$');
        Check.throwsIndex("hand: a pupil, a fault, and 30", () -> full.hand(6, 0));
        Check.throwsState("hand: a fault, and 30", () -> full.hand(0, 0));
        ProgramSchool busy = busy();
        Check.throwsIndex("accuse: the other one, and it is struck", () -> busy.accuse(2, 3));
        Check.throwsIndex("accuse: the other one, and it is struck", () -> busy.accuse(2, -1));
        Check.throwsIndex("accuse: the other one, which would be later", () -> busy.accuse(0, 3));
        Check.throwsIndex("accuse: both", () -> busy.accuse(3, 3));
    }

    /** A refused call, and then all that can be asked: as without the call. */
    private static void same(String what, String thrown, Maker maker, Call call) {
        ProgramSchool touched = maker.make();
        Check.due(what, thrown, Check.answer(() -> call.get(touched)));
        Check.due("the school after " + what, told(maker.make()), told(touched));
    }

    private static void nothingChanges() {
        String index = "IndexOutOfBoundsException";
        String argument = "IllegalArgumentException";
        String state = "IllegalStateException";
        same("write of a bad byte", argument, RefusalBounds::busy, school -> school.write(Texts.packed("a=1;") | 1L << 40));
        same("write of a bad byte behind the others", argument, RefusalBounds::busy, school -> school.write(Texts.packed("out 1;;") | 255L << 56));
        same("erase of 0", argument, RefusalBounds::busy, school -> school.erase(0));
        same("erase of too many", argument, RefusalBounds::busy, school -> school.erase(14));
        same("signAt", index, RefusalBounds::busy, school -> school.signAt(13));
        same("draftParts", state, RefusalBounds::faulty, ProgramSchool::draftParts);
        for (Maker maker : List.<Maker>of(RefusalBounds::busy, RefusalBounds::faulty)) {
            same("trial with fuel", argument, maker, school -> school.trial(5001, 1, 2));
            same("trialByTree with fuel", argument, maker, school -> school.trialByTree(-1, 1, 2));
        }
        same("trial of a fault", state, RefusalBounds::faulty, school -> school.trial(99, 1, 2));
        same("trialByTree of a fault", state, RefusalBounds::faulty, school -> school.trialByTree(99, 1, 2));
        same("outputAt", index, RefusalBounds::busy, school -> school.outputAt(1));
        same("cellAt", index, RefusalBounds::busy, school -> school.cellAt(32));
        refusedExercises(index, argument, state);
        refusedAnswers(index, state);
    }

    private static void refusedExercises(String index, String argument, String state) {
        same("addExercise with fuel", argument, RefusalBounds::busy, school -> school.addExercise(0, 3));
        same("addExercise with due", argument, RefusalBounds::busy, school -> school.addExercise(1, 2));
        same("addExercise of a 5th", state, RefusalBounds::full, school -> school.addExercise(1, 1000));
        same("addTest to no exercise", index, RefusalBounds::busy, school -> school.addTest(2, 1, 0, 0, 1, 1, 0));
        same("addTest with weight", argument, RefusalBounds::busy, school -> school.addTest(0, 11, 0, 0, 1, 1, 0));
        same("addTest with count", argument, RefusalBounds::busy, school -> school.addTest(0, 1, 0, 0, 3, 1, 0));
        same("addTest of a 9th", state, RefusalBounds::full, school -> school.addTest(0, 1, 0, 0, 1, 1, 0));
        same("withdraw of no exercise", index, RefusalBounds::busy, school -> school.withdraw(2, 0));
        same("withdraw of no test", index, RefusalBounds::busy, school -> school.withdraw(0, 2));
        same("withdraw once more", state, RefusalBounds::full, school -> school.withdraw(0, 7));
        same("pass of 0", argument, RefusalBounds::busy, school -> school.pass(0));
        same("pass of 101", argument, RefusalBounds::busy, school -> school.pass(101));
        same("pass above 1000", state, RefusalBounds::full, school -> school.pass(1));
    }

    private static void refusedAnswers(String index, String state) {
        same("hand of no pupil", index, RefusalBounds::busy, school -> school.hand(6, 0));
        same("hand for no exercise", index, RefusalBounds::busy, school -> school.hand(0, 2));
        same("hand of a fault", state, RefusalBounds::faulty, school -> school.hand(0, 0));
        same("hand of a 31st", state, RefusalBounds::full, school -> school.hand(0, 0));
        same("passes", index, RefusalBounds::busy, school -> school.passes(0, 2) ? 1 : 0);
        same("endOf", index, RefusalBounds::busy, school -> school.endOf(3, 0));
        same("points", index, RefusalBounds::busy, school -> school.points(3));
        same("mark", index, RefusalBounds::busy, school -> school.mark(-1));
        same("markAnew", index, RefusalBounds::busy, school -> school.markAnew(3));
        same("best", index, RefusalBounds::busy, school -> school.best(6, 0));
        same("passed", index, RefusalBounds::busy, school -> school.passed(0, 2));
        same("parts", index, RefusalBounds::busy, school -> school.parts(3));
        same("common", index, RefusalBounds::busy, school -> school.common(0, 3));
        same("likeness", index, RefusalBounds::busy, school -> school.likeness(3, 0));
        same("accuse of no answer", index, RefusalBounds::busy, school -> school.accuse(3, 0));
        same("accuse because of no answer", index, RefusalBounds::busy, school -> school.accuse(1, 3));
        same("accuse because of a later one", state, RefusalBounds::busy, school -> school.accuse(0, 1));
        same("accuse of a struck one", state, RefusalBounds::busy, school -> school.accuse(2, 1));
        same("clear of no answer", index, RefusalBounds::busy, school -> school.clear(3));
        same("clear of one that is not struck", state, RefusalBounds::busy, school -> school.clear(1));
        same("doubt", index, RefusalBounds::busy, school -> school.doubt(3));
    }

    /** All that a school tells, and what it answers when it goes on. */
    private static String told(ProgramSchool school) {
        List<String> told = new ArrayList<>();
        told.add(Texts.draft(school) + " " + school.fault() + " " + school.faultPlace() + " " + Check.answer(school::draftParts));
        told.add(Schools.outputsOf(school) + " fuel " + school.fuelLeft());
        for (int i = 0; i < 32; i++) {
            told.add(Integer.toString(school.cellAt(i)));
        }
        told.add("today " + school.today() + " answers " + school.answers());
        for (int exercise = 0; exercise < 4; exercise++) {
            int asked = exercise;
            for (int pupil = 0; pupil < 6; pupil++) {
                int of = pupil;
                told.add(Check.answer(() -> school.best(of, asked)));
            }
            for (int test = 0; test < 9; test++) {
                int number = test;
                told.add(Check.answer(() -> school.passed(asked, number)));
            }
        }
        for (int answer = 0; answer < school.answers(); answer++) {
            told.add("answer " + school.points(answer) + " " + school.mark(answer) + " " + school.doubt(answer));
        }
        told.add("ends " + Check.answer(() -> school.endOf(0, 0)) + " " + Check.answer(() -> school.markAnew(0)));
        goOn(school, told);
        return String.join(", ", told);
    }

    private static void goOn(ProgramSchool school, List<String> told) {
        told.add("clear " + Check.answer(() -> school.clear(2)));
        told.add("trialByTree " + Check.answer(() -> school.trialByTree(1, 5, 6)));
        told.add("addExercise " + Check.answer(() -> school.addExercise(9, 1000)));
        told.add("addTest " + Check.answer(() -> school.addTest(0, 1, 0, 0, 0, 0, 0)));
        told.add("hand " + Check.answer(() -> school.hand(0, 0)));
        told.add("mark " + Check.answer(() -> school.mark(school.answers() - 1)));
        told.add("withdraw " + Check.answer(() -> school.withdraw(0, 1)));
        told.add("pass " + Check.answer(() -> school.pass(2)));
        told.add("write " + Check.answer(() -> school.write(Texts.packed("a=1;"))));
        told.add("parts " + Check.answer(school::draftParts));
    }
}
