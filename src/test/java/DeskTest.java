/** Promises 30 to 35: parts, common, likeness, accuse, clear, doubt. */
public final class DeskTest {
    private static final int LEAST = Integer.MIN_VALUE, GREATEST = Integer.MAX_VALUE;

    public static void main(String[] args) {
        noAnswers();
        refusedPlaces();
        alike();
        common();
        accuseLimits();
        accuse();
        clear();
        doubt();
        Check.end("DeskTest");
    }

    /** A school in which each text is handed in by the pupil with its number, for exercise 0. */
    private static ProgramSchool school(String... texts) {
        ProgramSchool school = new ProgramSchool();
        school.addExercise(100, 0);
        for (int i = 0; i < texts.length; i++) {
            Texts.set(school, texts[i]);
            Check.due("hand of " + texts[i], i, school.hand(i % 6, 0));
        }
        return school;
    }

    private static void noAnswers() {
        refused(new ProgramSchool(), 0, 0);
        refused(school(), 0, 0);
        refused(school(""), 1, 0);
    }

    private static void refusedPlaces() {
        ProgramSchool school = school("out 1;", "out 1;");
        for (int place : new int[] {-1, 2, LEAST, GREATEST}) {
            refused(school, place, 1);
        }
    }

    /** All calls with an answer that there is not. */
    private static void refused(ProgramSchool school, int place, int other) {
        Check.throwsIndex("parts", () -> school.parts(place));
        Check.throwsIndex("common", () -> school.common(place, other));
        Check.throwsIndex("common with", () -> school.common(other, place));
        Check.throwsIndex("likeness", () -> school.likeness(place, other));
        Check.throwsIndex("likeness with", () -> school.likeness(other, place));
        Check.throwsIndex("accuse", () -> school.accuse(place, other));
        Check.throwsIndex("accuse because of", () -> school.accuse(other, place));
        Check.throwsIndex("clear", () -> school.clear(place));
        Check.throwsIndex("doubt", () -> school.doubt(place));
    }

    private static void pair(String one, String other, int common, int likeness) {
        ProgramSchool school = school(one, other);
        Check.due("common of " + one + " and " + other, common, school.common(0, 1));
        Check.due("common of " + other + " and " + one, common, school.common(1, 0));
        Check.due("likeness of " + one + " and " + other, likeness, school.likeness(0, 1));
        Check.due("likeness of " + other + " and " + one, likeness, school.likeness(1, 0));
        Check.due("common with itself", school.parts(0), school.common(0, 0));
        Check.due("likeness with itself", school.parts(0) == 0 ? 0 : 100, school.likeness(0, 0));
    }

    private static void alike() {
        pair("a=1;", "b=2;", 1, 100);
        pair("a=1;", " b = 234 ;\n", 1, 100);
        pair("a=b;", "a=a;", 1, 100);
        pair("a=1;", "a=a;", 0, 0);
        pair("a=1;", "a=(1);", 0, 0);
        pair("a=1;", "a=-1;", 0, 0);
        pair("a=1+2;", "a=1-2;", 0, 0);
        pair("a=1-2;", "a=1--2;", 0, 0);
        pair("a=in;", "a=1;", 0, 0);
        pair("out 1;", "a=1;", 0, 0);
        pair("out #1;", "out -1;", 0, 0);
        pair("#1=1;", "#a=1;", 0, 0);
        pair("#1=1;", "#2=7;", 1, 100);
        pair("f();def f(){}", "g();def g(){}", 2, 100);
        pair("f(1);def f(a){}", "h(9);def h(x){}", 2, 100);
        pair("f(1);def f(a){}", "f(b);def f(a){}", 1, 50);
        pair("out f(1);def f(a){}", "out(1);", 0, 0);
        pair("f=1;", "g=1;", 1, 100);
        pair("f(1);g(1);def f(a){}def g(b){}", "g(1);f(1);def g(a){}def f(b){}", 4, 100);
        pair("def f(a){return a;}", "def f(b){return b;}", 2, 100);
        pair("def f(a){return a;}", "def f(b){return 1;}", 0, 0);
        pair("if 1{out 1;}", "if 1{out 2;}", 2, 100);
        pair("if 1{out 1;}", "if 1{out a;}", 0, 0);
        pair("if 1{out 1;}", "while 1{out 1;}", 1, 50);
        pair("if 1{}", "if 1{}else{}", 0, 0);
        pair("if 1{}else{out 1;}", "if 1{out 1;}else{}", 1, 50);
        pair("if 1{out 1;}out 1;", "out 1;if 1{out 1;}", 3, 100);
        pair("out 1||2;", "out 1&&2;", 0, 0);
        pair("out 1<2;", "out 1<=2;", 0, 0);
        pair("out 1==2;", "out 1!=2;", 0, 0);
    }

    private static void common() {
        pair("", "", 0, 0);
        pair("", "out 1;", 0, 0);
        pair("out 1;", "out 2;out 3;", 1, 66);
        pair("out 1;out 2;out 3;", "out 4;a=1;out 5;", 2, 66);
        pair("a=1;a=1;out 1;", "out 1;out 1;a=1;", 2, 66);
        pair("out 1;a=1;#1=1;", "#2=2;b=2;out 2;", 3, 100);
        pair("a=1;".repeat(75), "b=2;".repeat(75), 75, 100);
        pair("a=1;".repeat(75), "b=2;".repeat(50), 50, 80);
        pair("a=1;".repeat(75), "b=2;".repeat(49), 49, 79);
        ProgramSchool school = school("a=1;", "out 1;", "");
        Check.due("parts", 1, school.parts(0));
        Check.due("parts of nothing", 0, school.parts(2));
        Check.due("likeness of nothing with itself", 0, school.likeness(2, 2));
        // Answers to other exercises can be compared, too.
        school.addExercise(1, 0);
        Texts.set(school, "b=2;out 3;");
        school.hand(0, 1);
        Check.due("common with another exercise's", 1, school.common(3, 0));
        Check.due("likeness with another exercise's", 66, school.likeness(0, 3));
    }

    private static void accusable(boolean want, String one, String other) {
        ProgramSchool school = school(one, other);
        Check.due("doubt of " + other + " after " + one, want ? 0 : ProgramSchool.NONE, school.doubt(1));
        Check.due("accuse of " + other + " because of " + one, want ? "0" : "IllegalStateException",
                Check.answer(() -> school.accuse(1, 0)));
    }

    private static void accuseLimits() {
        accusable(false, "", "");
        accusable(false, "a=1;b=1;", "a=1;b=1;");
        accusable(true, "a=1;b=1;out 1;", "a=1;b=1;out 1;");
        accusable(true, "a=1;".repeat(4), "a=1;".repeat(4) + "out 1;");
        accusable(true, "a=1;".repeat(4) + "out 1;", "a=1;".repeat(4) + "#1=1;");
        accusable(false, "a=1;".repeat(3) + "out 1;", "a=1;".repeat(3) + "#1=1;");
        accusable(true, "a=1;".repeat(50), "a=1;".repeat(75));
        accusable(false, "a=1;".repeat(49), "a=1;".repeat(75));
        accusable(true, "a=1;".repeat(50) + "out 1;", "a=1;".repeat(73));
        accusable(false, "a=1;".repeat(48) + "out 1;out 1;", "a=1;".repeat(73));
    }

    private static void accuse() {
        String text = "a=1;b=2;out 1;";
        ProgramSchool school = school(text, text, text, "out 5;");
        school.addTest(0, 1, 0, 0, 1, 1, 0);
        school.addExercise(100, 0);
        Texts.set(school, text);
        school.hand(5, 1);
        school.hand(0, 0);
        Check.throwsState("because of a later one", () -> school.accuse(0, 1));
        Check.throwsState("because of itself", () -> school.accuse(1, 1));
        Check.throwsState("because of one of the same pupil", () -> school.accuse(5, 0));
        Check.throwsState("because of one that is not like it", () -> school.accuse(3, 0));
        Check.throwsState("because of one to another exercise", () -> school.accuse(4, 0));
        Check.throwsState("of one to another exercise", () -> school.accuse(5, 4));
        Check.due("accuse", 100, school.accuse(2, 1));
        Check.throwsState("a struck one", () -> school.accuse(2, 1));
        Check.throwsState("a struck one because of another", () -> school.accuse(2, 0));
        Check.due("because of a struck one", 100, school.accuse(5, 2));
        Check.due("mark", 0, school.mark(5));
        Check.due("clear", 100, school.clear(2));
        Check.due("accuse once more", 100, school.accuse(2, 0));
        school.pass(3);
        school.hand(3, 0);
        Check.due("accuse of a late one", 70, school.accuse(6, 5));
    }

    private static void clear() {
        String text = "a=1;b=2;out 1;";
        ProgramSchool school = school(text, text);
        Check.throwsState("one that is not struck", () -> school.clear(0));
        Check.due("accuse", 0, school.accuse(1, 0));
        school.addTest(0, 1, 0, 0, 1, 1, 0);
        Check.due("mark of a struck one", 0, school.mark(1));
        Check.throwsState("the other one", () -> school.clear(0));
        Check.due("clear", 100, school.clear(1));
        Check.throwsState("clear once more", () -> school.clear(1));
        Check.due("mark", 100, school.mark(1));
    }

    private static void doubt() {
        String text = "a=1;b=2;out 1;";
        ProgramSchool school = school(text, "out 1;", text, text);
        Check.due("the first one", ProgramSchool.NONE, school.doubt(0));
        Check.due("one that is not like others", ProgramSchool.NONE, school.doubt(1));
        Check.due("the third one", 0, school.doubt(2));
        Check.due("the earliest one", 0, school.doubt(3));
        school.accuse(3, 2);
        Check.due("of a struck one", 0, school.doubt(3));
        Texts.set(school, text);
        Check.due("hand", 4, school.hand(0, 0));
        Check.due("the earliest one of another pupil", 2, school.doubt(4));
        school.accuse(2, 0);
        Check.due("because of a struck one", 2, school.doubt(4));
        school.addExercise(100, 0);
        Check.due("hand", 5, school.hand(4, 1));
        Check.due("in another exercise", ProgramSchool.NONE, school.doubt(5));
    }
}
