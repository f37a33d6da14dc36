/** The bounds of runs: the sentences of "Runs" and of promises 10 to 15. */
final class RunBounds {
    private static final int DONE = ProgramSchool.DONE, FUEL = ProgramSchool.FUEL, OVERFLOW = ProgramSchool.OVERFLOW,
            DIVISION = ProgramSchool.DIVISION, CELL = ProgramSchool.CELL, INPUT = ProgramSchool.INPUT,
            OUTPUT = ProgramSchool.OUTPUT, DEPTH = ProgramSchool.DEPTH;
    private static final int LEAST = Schools.LEAST, GREATEST = Schools.GREATEST;
    private static final int MOST_FUEL = 5000;
    private static final String[] BINARY = {"+", "-", "*", "/", "%", "<", "<=", ">", ">=", "==", "!=", "&&", "||"};
    /** A program for each end of a run, by the end's number, for the inputs 5 and 9. */
    static final String[] ENDING = {"out in;", "while 1{}", "out 2147483647+in;", "out in/0;", "out #(27+in);", "out in+in+in;",
        "while 1{out in;while 1{out 1;}}", "f(in);def f(a){f(a);}"};

    /** One of the two trials. */
    private interface Trial {
        int run(ProgramSchool school, int fuel, int first, int second);
    }

    private RunBounds() {
    }

    static void test() {
        Sentence.section("Runs");
        Sentence.holds("A run has fuel, a row of inputs, a row of outputs, at most 8, and 32 cells, 0 to 31, which are 0 at first.", RunBounds::whatARunHas);
        Sentence.holds("Values are ints.", RunBounds::values);
        Sentence.holds("Variables are 0 at first; those of a def are new for each call.", RunBounds::variables);
        statements();
        expressions();
        ends();
        Sentence.section("Promise 10: trial");
        Sentence.holds("Runs the draft.", () -> draftIsRun(ProgramSchool::trial));
        trial(ProgramSchool::trial);
        Sentence.section("Promise 11: trialByTree");
        Sentence.holds("Runs the draft in another way, statement by statement in its text as it was read; it is a trial, too.",
                () -> draftIsRun(ProgramSchool::trialByTree));
        trial(ProgramSchool::trialByTree);
        lastTrial();
    }

    private static void statements() {
        Sentence.holds("Statements are done one behind the other, defs left out.", RunBounds::order);
        Sentence.holds("To begin a statement takes 1 fuel; for while it is 1 for each time that E is asked.", RunBounds::fuelOfStatements);
        Sentence.holds("If and while go by E not being 0; block behind else otherwise.", RunBounds::notZero);
        Sentence.holds("A call does the block of its def with parameters that have the values of the arguments;", RunBounds::arguments);
        Sentence.holds("its value is that of the return at which it ends, or 0 at the end of the block.", RunBounds::valueOfCall);
    }

    private static void expressions() {
        Sentence.holds("Expressions: operands from the left;", RunBounds::operandsFromTheLeft);
        Sentence.holds("&& and || ask the right one only if the left one does not tell already,", RunBounds::rightOneAsked);
        Sentence.holds("and come to 1 or 0, like comparisons and !.", RunBounds::truths);
        Sentence.holds("The quotient is rounded toward 0, % is what remains of it.", RunBounds::quotients);
        Sentence.holds("- of one operand changes the sign,", () -> TrialTest.takes("out -7;out --7;out -0;a=-3;out -a;", 11, "-7 7 0 3"));
        Sentence.holds("# is the value of the cell with that number.", RunBounds::cellValues);
        Sentence.holds("in is the next input.", RunBounds::nextInput);
        Sentence.holds("Each mark with one or two operands, each call, and each in takes 1 fuel:", RunBounds::fuelOfExpressions);
        Sentence.holds("when its operands and arguments are known (for && and || when the left one is).", RunBounds::whenFuelIsTaken);
        Sentence.holds("For # U = E ; U comes first, then E; then the cell has the value, or it is CELL.", RunBounds::cellStatement);
        Sentence.holds("Its # takes no fuel.", RunBounds::fuelOfCellStatement);
    }

    private static void ends() {
        Sentence.holds("A run ends by the first of these, or is DONE at the end of the program:", RunBounds::firstEnd);
        Sentence.holds("- FUEL: fuel is to be taken, and there is none;", RunBounds::fuel);
        Sentence.holds("that is asked ahead of the others,", RunBounds::fuelFirst);
        Sentence.holds("- OVERFLOW: what comes of + - * / or of - of one operand is no int,", RunBounds::overflow);
        Sentence.holds("- DIVISION: / or % by 0,", RunBounds::division);
        Sentence.holds("- CELL: there is no such cell,", RunBounds::cells);
        Sentence.holds("- INPUT: there is no input left,", RunBounds::inputs);
        Sentence.holds("- OUTPUT: a 9th output,", RunBounds::outputs);
        Sentence.holds("- DEPTH: a call while 10 are going on.", RunBounds::depth);
    }

    private static void trial(Trial trial) {
        Sentence.holds("- `fuel`: 0 to 5000", () -> trialFuel(trial));
        Sentence.holds("- `first`: the first input", () -> firstInput(trial));
        Sentence.holds("- `second`: the second input", () -> secondInput(trial));
        Sentence.holds("Returns how the run ends.", () -> trialEnds(trial));
        Sentence.holds("Throws `IllegalArgumentException` if fuel is out of range", () -> trialRefusesFuel(trial));
        Sentence.holds("Throws `IllegalStateException` if the draft has a fault", () -> trialRefusesFault(trial));
    }

    private static void lastTrial() {
        Sentence.section("Promise 12: outputs");
        Sentence.holds("Returns how many outputs the last trial made; 0 if there was none.", RunBounds::outputsOfLast);
        Sentence.section("Promise 13: outputAt");
        Sentence.holds("Returns an output of the last trial.", RunBounds::outputOfLast);
        Sentence.holds("- `place`: 0 for the first one", RunBounds::outputPlaces);
        Sentence.holds("Throws `IndexOutOfBoundsException` if there is no such output", RunBounds::outputRefused);
        Sentence.section("Promise 14: fuelLeft");
        Sentence.holds("Returns how much fuel the last trial left; 0 if there was none.", RunBounds::fuelOfLast);
        Sentence.section("Promise 15: cellAt");
        Sentence.holds("Returns the value of a cell at the end of the last trial; 0 if there was none.", RunBounds::cellOfLast);
        Sentence.holds("- `cell`: 0 to 31", RunBounds::cellPlaces);
        Sentence.holds("Throws `IndexOutOfBoundsException` if there is no such cell", RunBounds::cellRefused);
    }

    /** How a run with as much fuel as can be ends, in both ways, and the outputs that it makes. */
    private static void ends(String text, int first, int second, int end, String outputs) {
        ProgramSchool school = Texts.school(text);
        Check.due("trial of " + text, end, school.trial(MOST_FUEL, first, second));
        Check.due("outputs of " + text, outputs, Schools.outputsOf(school));
        Check.due("trialByTree of " + text, end, school.trialByTree(MOST_FUEL, first, second));
        Check.due("outputs by tree of " + text, outputs, Schools.outputsOf(school));
    }

    private static void ends(String text, int end, String outputs) {
        ends(text, 5, 9, end, outputs);
    }

    private static void gives(String text, int first, int second, String outputs) {
        ends(text, first, second, DONE, outputs);
    }

    private static void whatARunHas() {
        ends("while i<8{out #i;i=i+1;}", DONE, "0 0 0 0 0 0 0 0");
        ends("while i<9{out #i;i=i+1;}", OUTPUT, "0 0 0 0 0 0 0 0");
        ends("while i<32{s=s+#i;#i=1;i=i+1;}out s;while i{i=i-1;s=s+#i;}out s;", DONE, "0 32");
        ends("out #31;#32=1;", CELL, "0");
        ends("#0=1;#-1=1;", CELL, "");
        // Each run has its own.
        ProgramSchool school = Texts.school("out #0;out #31;#0=in;#31=in;");
        for (int i = 0; i < 3; i++) {
            Check.due("trial", DONE, i == 1 ? school.trialByTree(20, 5, 9) : school.trial(20, 5, 9));
            Check.due("outputs", "0 0", Schools.outputsOf(school));
            Check.due("cell 0", 5, school.cellAt(0));
            Check.due("cell 31", 9, school.cellAt(31));
        }
    }

    private static void values() {
        gives("out in;out in;", LEAST, GREATEST, "-2147483648 2147483647");
        gives("a=in;b=in;out a;out b;", LEAST, GREATEST, "-2147483648 2147483647");
        gives("#1=in;#2=in;out #1;out #2;", LEAST, GREATEST, "-2147483648 2147483647");
        gives("out f(in);out f(in);def f(a){return a;}", LEAST, GREATEST, "-2147483648 2147483647");
        gives("a=in;b=in;out a<b;out a>b;out a==b;out a+b;", LEAST, GREATEST, "1 0 0 -1");
        gives("if in{out 1;}out !in;", LEAST, LEAST, "1 0");
    }

    private static void variables() {
        ends("out a;a=1;out a;out b;", DONE, "0 1 0");
        ends("f();f();def f(){out a;a=1;}", DONE, "0 0");
        ends("f(2);def f(a){out a;if a{b=a;f(a-1);}out b;}", DONE, "2 1 0 0 1 2");
        ends("f(1,2,3,4,5,6,7,8);g();def f(a,b,c,d,e,f,g,h){h=9;}def g(){out a+b+c+d+e+f+g+h;}", DONE, "0");
        ends("a=7;f();out a;def f(){out a;a=8;}", DONE, "0 7");
        ProgramSchool school = Texts.school("out a;a=1;");
        for (int i = 0; i < 3; i++) {
            Check.due("trial", DONE, i == 1 ? school.trialByTree(20, 0, 0) : school.trial(20, 0, 0));
            Check.due("a variable of a run of its own", 0, school.outputAt(0));
        }
    }

    private static void order() {
        TrialTest.takes("out 1;out 2;out 3;", 3, "1 2 3");
        TrialTest.takes("def f(){out 9;}", 0, "");
        TrialTest.takes("out 1;def f(){out 9;}out 2;def g(){}", 2, "1 2");
        TrialTest.takes("if 1{out 1;out 2;}out 3;", 4, "1 2 3");
        TrialTest.takes("", 0, "");
    }

    private static void fuelOfStatements() {
        TrialTest.takes("a=1;", 1, "");
        TrialTest.takes("#1=1;", 1, "");
        TrialTest.takes("out 1;", 1, "1");
        TrialTest.takes("f();def f(){}", 2, "");
        TrialTest.takes("f();def f(){return 1;}", 3, "");
        TrialTest.takes("if 0{}", 1, "");
        TrialTest.takes("if 1{}", 1, "");
        TrialTest.takes("if 0{}else{}", 1, "");
        TrialTest.takes("if 1{}else{}", 1, "");
        // E is asked once, twice, and eight times.
        TrialTest.takes("while 0{}", 1, "");
        TrialTest.takes("i=1;while i{i=0;}", 4, "");
        TrialTest.takes("i=7;while i{i=i-1;}", 23, "");
    }

    private static void notZero() {
        for (int value : new int[] {1, -1, 2, 256, 65536, LEAST, GREATEST}) {
            gives("if in{out 1;}out 9;", value, 0, "1 9");
            gives("if in{out 1;}else{out 2;}out 9;", value, 0, "1 9");
            gives("a=in;while a{out 1;a=0;}out 9;", value, 0, "1 9");
        }
        gives("if in{out 1;}out 9;", 0, 1, "9");
        gives("if in{out 1;}else{out 2;}out 9;", 0, 1, "2 9");
        gives("while in{out 1;}out 9;", 0, 1, "9");
        gives("while in{out 1;}out 9;", 1, 0, "1 9");
        gives("if in{if in{out 1;}}else{out 2;}out 9;", 1, 0, "9");
        gives("if in{}else{if in{}else{out 2;}}out 9;", 0, 0, "2 9");
    }

    private static void arguments() {
        ends("f(1,2);def f(a,b){out a;out b;}", DONE, "1 2");
        ends("f();def f(){out 1;}", DONE, "1");
        ends("f(1,2,3,4,5,6,7,8);def f(a,b,c,d,e,f,g,h){out a;out b;out c;out d;out e;out f;out g;out h;}", DONE, "1 2 3 4 5 6 7 8");
        ends("a=1;b=2;f(b,a);def f(a,b){out a;out b;}", DONE, "2 1");
        ends("f(f(1)+f(2));def f(a){out a;return a*10;}", DONE, "1 2 30");
        ends("a=1;f(a);out a;def f(b){b=2;}", DONE, "1");
    }

    private static void valueOfCall() {
        ends("out f();def f(){return 7;}", DONE, "7");
        ends("out f();def f(){return 7;return 8;}", DONE, "7");
        ends("out f();def f(){}", DONE, "0");
        ends("out f();def f(){a=7;}", DONE, "0");
        ends("out f(1);out f(0);def f(a){if a{return 7;}}", DONE, "7 0");
        ends("out f();def f(){while 1{if 1{return 7;}}}", DONE, "7");
        ends("out 5+f()*2;def f(){if 1{return 4;}return 3;}", DONE, "13");
        ends("out g();def f(){return 7;}def g(){f();}", DONE, "0");
        ends("out g();def f(){return 7;}def g(){return f();}", DONE, "7");
    }

    private static void operandsFromTheLeft() {
        for (String mark : new String[] {"+", "-", "*", "/", "%", "<", "<=", ">", ">=", "==", "!="}) {
            ends("a=f(1)" + mark + "f(2);def f(a){out a;return a;}", DONE, "1 2");
        }
        ends("a=f(1)&&f(2);b=f(0)||f(3);def f(a){out a;return a;}", DONE, "1 2 0 3");
        ends("a=f(1)+f(2)*f(3)-f(4);def f(a){out a;return a;}", DONE, "1 2 3 4");
        ends("g(f(1),f(2),f(3));def f(a){out a;return a;}def g(a,b,c){out 4;}", DONE, "1 2 3 4");
        gives("out in-in;", 5, 9, "-4");
        gives("out in/in;", 20, 7, "2");
        gives("out in<in;", 1, 2, "1");
    }

    private static void rightOneAsked() {
        ends("out 0&&1/0;out 1||1/0;", DONE, "0 1");
        ends("out -1||1/0;", DONE, "1");
        ends("out 1&&1/0;", DIVISION, "");
        ends("out 0||1/0;", DIVISION, "");
        ends("out 0&&1/0&&1/0;out 1||1/0||1/0;", DONE, "0 1");
        ends("out 0&&1/0||2;out 1||1/0&&1/0;", DONE, "1 1");
        ends("a=0&&f(1);a=1||f(2);a=1&&f(3);a=0||f(4);def f(a){out a;}", DONE, "3 4");
        ends("a=in;b=0&&in;out in;", DONE, "9");
    }

    private static void truths() {
        ends("out 5&&7;out 5&&0;out 0&&7;out 0&&0;", DONE, "1 0 0 0");
        ends("out 5||7;out 5||0;out 0||-7;out 0||0;", DONE, "1 1 1 0");
        ends("out !0;out !1;out !-1;out !7;", DONE, "1 0 0 0");
        for (String[] each : new String[][] {{"<", "1 0 0"}, {"<=", "1 1 0"}, {">", "0 0 1"}, {">=", "0 1 1"}, {"==", "0 1 0"}, {"!=", "1 0 1"}}) {
            ends("out 4" + each[0] + "5;out 5" + each[0] + "5;out 6" + each[0] + "5;", DONE, each[1]);
            gives("a=in;b=in;out a" + each[0] + "b;out a" + each[0] + "a;out b" + each[0] + "a;", LEAST, GREATEST, each[1]);
        }
    }

    private static void quotients() {
        ends("out 7/2;out -7/2;out 7/-2;out -7/-2;", DONE, "3 -3 -3 3");
        ends("out 7%2;out -7%2;out 7%-2;out -7%-2;", DONE, "1 -1 1 -1");
        ends("out 1/2;out -1/2;out 1%2;out -1%2;", DONE, "0 0 1 -1");
        ends("out 6/2;out -6/2;out 6%2;out -6%2;", DONE, "3 -3 0 0");
        gives("a=in;b=in;out a/2;out a%2;out b/2;out b%2;", LEAST, GREATEST, "-1073741824 0 1073741823 1");
        gives("a=in;b=in;out a/b;out a%b;out b/a;out b%a;", LEAST, GREATEST, "-1 -1 0 2147483647");
    }

    private static void cellValues() {
        ends("#0=5;#31=6;out #0;out #31;out #1;out #30;", DONE, "5 6 0 0");
        ends("#3=4;#4=5;out ##3;out #(3+1);", DONE, "5 5");
        gives("#3=in;out #3;#3=in;out #3;", 1, 2, "1 2");
    }

    private static void nextInput() {
        gives("out in;out in;", 3, 4, "3 4");
        gives("f();out in;def f(){out in;}", 3, 4, "3 4");
        gives("out in*10+in;", 3, 4, "34");
        gives("if in{}out in;", 3, 4, "4");
        ends("out in;out in;out in;", INPUT, "5 9");
    }

    private static void fuelOfExpressions() {
        for (String mark : BINARY) {
            TrialTest.takes("a=1" + mark + "1;", 2, "");
            TrialTest.takes("a=0" + mark + "1;", 2, "");
            TrialTest.takes("a=1" + mark + "1" + mark + "1;", 3, "");
        }
        TrialTest.takes("a=-1;", 2, "");
        TrialTest.takes("a=!1;", 2, "");
        TrialTest.takes("a=#1;", 2, "");
        TrialTest.takes("a=-!#1;", 4, "");
        TrialTest.takes("a=in;", 2, "");
        TrialTest.takes("a=in+in;", 4, "");
        TrialTest.takes("a=f();def f(){}", 2, "");
        TrialTest.takes("a=f(1,2);def f(a,b){}", 2, "");
        TrialTest.takes("a=f(f(1));def f(a){}", 3, "");
        // Numbers, variables and ( ) take none.
        TrialTest.takes("a=1;b=a;c=((b));", 3, "");
    }

    private static void whenFuelIsTaken() {
        // With fuel for the statement and one thing more: what is inside takes it.
        for (String mark : new String[] {"+", "-", "*", "%", "<", "<=", ">", ">=", "==", "!="}) {
            TrialTest.run("a=1/0" + mark + "1;", 2, 0, 0, DIVISION, 0, "");
            TrialTest.run("a=1" + mark + "(1/0);", 2, 0, 0, DIVISION, 0, "");
        }
        for (String mark : new String[] {"-", "!", "#"}) {
            TrialTest.run("a=" + mark + "(1/0);", 2, 0, 0, DIVISION, 0, "");
        }
        TrialTest.run("f(1/0);def f(a){}", 2, 0, 0, DIVISION, 0, "");
        TrialTest.run("f(1,1/0);def f(a,b){}", 2, 0, 0, DIVISION, 0, "");
        // && and || take it before the right one is asked, and behind the left one.
        TrialTest.run("a=1&&1/0;", 2, 0, 0, FUEL, 0, "");
        TrialTest.run("a=1&&1/0;", 3, 0, 0, DIVISION, 0, "");
        TrialTest.run("a=0||1/0;", 2, 0, 0, FUEL, 0, "");
        TrialTest.run("a=0||1/0;", 3, 0, 0, DIVISION, 0, "");
        TrialTest.run("a=1/0&&1;", 2, 0, 0, DIVISION, 0, "");
        TrialTest.run("a=1/0||1;", 2, 0, 0, DIVISION, 0, "");
        TrialTest.run("a=0&&1;", 1, 0, 0, FUEL, 0, "");
        TrialTest.run("a=1||1;", 1, 0, 0, FUEL, 0, "");
    }

    private static void cellStatement() {
        ends("#f(1)=f(2);out #1;def f(a){out a;return a;}", DONE, "1 2 2");
        ends("#in=in;out #5;", DONE, "9");
        ends("#(1/0)=in+in+in;", DIVISION, "");
        ends("#32=1/0;", DIVISION, "");
        ends("#-1=f();def f(){out 7;}", CELL, "7");
        ends("#2=3;#2=#2+#2;out #2;", DONE, "6");
        ends("#31=1;out #31;", DONE, "1");
        ends("#32=1;", CELL, "");
        ends("#0=1;out #0;", DONE, "1");
        ends("#-1=1;", CELL, "");
    }

    private static void fuelOfCellStatement() {
        TrialTest.takes("#1=2;", 1, "");
        TrialTest.takes("#(1)=2;", 1, "");
        TrialTest.takes("##1=2;", 2, "");
        TrialTest.takes("#-0=2;", 2, "");
        TrialTest.takes("#1=#2;", 2, "");
    }

    private static void firstEnd() {
        ends("", DONE, "");
        ends("out 1;", DONE, "1");
        ends("out 1;out 1/0;out #32;", DIVISION, "1");
        ends("out 1;out #32;out 1/0;", CELL, "1");
        ends("out in+in+in;out 1/0;", INPUT, "");
        ends("out 2147483647+1/0;", DIVISION, "");
        ends("out (2147483647+1)/0;", OVERFLOW, "");
        ends("while i<8{i=i+1;out i;}out 1/0;", DIVISION, "1 2 3 4 5 6 7 8");
        ends("f();out 1/0;def f(){f();}", DEPTH, "");
        // Nothing is done behind the end.
        ProgramSchool school = Texts.school("#1=1;out 5;#2=1/0;#3=1;out 6;");
        for (int way = 0; way < 2; way++) {
            Check.due("end", DIVISION, way == 0 ? school.trial(50, 0, 0) : school.trialByTree(50, 0, 0));
            Check.due("outputs", 1, school.outputs());
            Check.due("a cell before the end", 1, school.cellAt(1));
            Check.due("a cell at the end", 0, school.cellAt(2));
            Check.due("a cell behind the end", 0, school.cellAt(3));
            Check.due("fuel left at the end", 46, school.fuelLeft());
        }
    }

    private static void fuel() {
        TrialTest.run("a=1;", 0, 0, 0, FUEL, 0, "");
        TrialTest.run("a=1;", 1, 0, 0, DONE, 0, "");
        TrialTest.run("", 0, 0, 0, DONE, 0, "");
        TrialTest.run("def f(){}", 0, 0, 0, DONE, 0, "");
        TrialTest.run("out 1;out 2;", 1, 0, 0, FUEL, 0, "1");
        TrialTest.run("out 1;out 2;", 2, 0, 0, DONE, 0, "1 2");
        TrialTest.run("while 1{}", 5000, 0, 0, FUEL, 0, "");
        TrialTest.run("i=2;while i{i=i-1;out i;}", 8, 0, 0, FUEL, 0, "1");
        TrialTest.run("i=2;while i{i=i-1;out i;}", 10, 0, 0, DONE, 0, "1 0");
        longRuns();
    }

    /** Runs that do as much of one thing as fuel allows. */
    private static void longRuns() {
        TrialTest.run("while 1{a=1;}", 5000, 0, 0, FUEL, 0, "");
        TrialTest.run("while 1{f();}def f(){}", 5000, 0, 0, FUEL, 0, "");
        TrialTest.run("while i<800{a=0;b=0;i=i+1;}out i;", 5000, 0, 0, DONE, 197, "800");
        TrialTest.run("while i<800{#1=0;#2=0;i=i+1;}out i;", 5000, 0, 0, DONE, 197, "800");
        TrialTest.run("while i<800{if 0{}if i{}i=i+1;}out i;", 5000, 0, 0, DONE, 197, "800");
        TrialTest.run("while i<415{f();f();f();f();i=i+1;}out i;def f(){}", 5000, 0, 0, DONE, 17, "415");
        TrialTest.run("while i<450{a=f()+f();i=i+1;}out i;def f(){if 1{while 1{return 1;}}}", 5000, 0, 0, FUEL, 0, "");
        TrialTest.run("while i<300{a=f(i)+f(a);i=i+1;}out i;def f(a){if 1{while 1{return 1;}}}", 5000, 0, 0, DONE, 797, "300");
        TrialTest.run("while i<600{a=0&&1||0&&1;i=i+1;}out i;", 5000, 0, 0, DONE, 197, "600");
    }

    /** With the fuel it is the other end, with 1 less it is FUEL. */
    private static void fuelAhead(String text, int fuel, int end, String outputs) {
        TrialTest.run(text, fuel, 0, 0, end, 0, outputs);
        TrialTest.run(text, fuel - 1, 0, 0, FUEL, 0, outputs);
    }

    private static void fuelFirst() {
        fuelAhead("out 2147483647+1;", 2, OVERFLOW, "");
        fuelAhead("out -(-2147483647-1);", 4, OVERFLOW, "");
        fuelAhead("out 1/0;", 2, DIVISION, "");
        fuelAhead("out 1%0;", 2, DIVISION, "");
        fuelAhead("out #32;", 2, CELL, "");
        fuelAhead("#32=1;", 1, CELL, "");
        fuelAhead("a=in+in;a=in;", 6, INPUT, "");
        fuelAhead("out 1;out 2;out 3;out 4;out 5;out 6;out 7;out 8;out 9;", 9, OUTPUT, "1 2 3 4 5 6 7 8");
        fuelAhead("f();def f(){f();}", 22, DEPTH, "");
    }

    private static void overflow() {
        gives("out in+in;", GREATEST, 0, "2147483647");
        ends("out in+in;", GREATEST, 1, OVERFLOW, "");
        gives("out in+in;", GREATEST - 1, 1, "2147483647");
        gives("out in+in;", LEAST + 1, -1, "-2147483648");
        ends("out in+in;", LEAST, -1, OVERFLOW, "");
        ends("out in+in;", GREATEST, GREATEST, OVERFLOW, "");
        ends("out in+in;", LEAST, LEAST, OVERFLOW, "");
        gives("out in-in;", LEAST + 1, 1, "-2147483648");
        ends("out in-in;", LEAST, 1, OVERFLOW, "");
        gives("out in-in;", GREATEST - 1, -1, "2147483647");
        ends("out in-in;", GREATEST, -1, OVERFLOW, "");
        ends("out in-in;", 0, LEAST, OVERFLOW, "");
        gives("out in-in;", -1, LEAST, "2147483647");
        overflowOfProducts();
        gives("out -in;", GREATEST, 0, "-2147483647");
        gives("out -in;", LEAST + 1, 0, "2147483647");
        ends("out -in;", LEAST, 0, OVERFLOW, "");
    }

    private static void overflowOfProducts() {
        gives("out in*in;", 46340, 46340, "2147395600");
        ends("out in*in;", 46341, 46341, OVERFLOW, "");
        gives("out in*in;", 65536, -32768, "-2147483648");
        ends("out in*in;", 65536, 32768, OVERFLOW, "");
        ends("out in*in;", 65536, -32769, OVERFLOW, "");
        ends("out in*in;", 65536, 65536, OVERFLOW, "");
        gives("out in*in;", LEAST, 1, "-2147483648");
        ends("out in*in;", LEAST, -1, OVERFLOW, "");
        ends("out in*in;", LEAST, LEAST, OVERFLOW, "");
        gives("out in*in;", GREATEST, -1, "-2147483647");
        gives("out in/in;", LEAST, 1, "-2147483648");
        ends("out in/in;", LEAST, -1, OVERFLOW, "");
        gives("out in/in;", LEAST + 1, -1, "2147483647");
        gives("out in/in;", GREATEST, -1, "-2147483647");
        // What comes of % is always an int.
        gives("out in%in;", LEAST, -1, "0");
        gives("out in%in;", LEAST, GREATEST, "-1");
    }

    private static void division() {
        for (String mark : new String[] {"/", "%"}) {
            for (int value : new int[] {0, 1, -1, LEAST, GREATEST}) {
                ends("out in" + mark + "in;", value, 0, DIVISION, "");
                gives("out in" + mark + "in;", value, 1, mark.equals("/") ? Integer.toString(value) : "0");
            }
            gives("out in" + mark + "in;", 0, -1, "0");
            gives("out in" + mark + "in;", 0, 5, "0");
        }
    }

    private static void cells() {
        for (int cell : new int[] {0, 1, 30, 31}) {
            gives("out #in;", cell, 0, "0");
            gives("a=in;#a=5;out #a;", cell, 0, "5");
        }
        for (int cell : new int[] {-1, 32, 33, 64, 256, LEAST, GREATEST}) {
            ends("out 1;out #in;", cell, 0, CELL, "1");
            ends("out 1;#in=5;out 2;", cell, 0, CELL, "1");
        }
    }

    private static void inputs() {
        ends("", DONE, "");
        ends("out in;", DONE, "5");
        ends("out in;out in;", DONE, "5 9");
        ends("out in;out in;out in;", INPUT, "5 9");
        ends("a=in+in+in;", INPUT, "");
        ends("f();f();f();def f(){out in;}", INPUT, "5 9");
        ends("while 1{out in;}", INPUT, "5 9");
        gives("out in;out in;", 0, 0, "0 0");
    }

    private static void outputs() {
        String eight = "out 1;out 2;out 3;out 4;out 5;out 6;out 7;out 8;";
        ends(eight, DONE, "1 2 3 4 5 6 7 8");
        ends(eight + "out 9;", OUTPUT, "1 2 3 4 5 6 7 8");
        ends(eight + "if 0{out 9;}", DONE, "1 2 3 4 5 6 7 8");
        ends("while 1{i=i+1;out i;}", OUTPUT, "1 2 3 4 5 6 7 8");
        ends("while i<8{i=i+1;f(i);}def f(a){out a;}", DONE, "1 2 3 4 5 6 7 8");
        ends("while i<9{i=i+1;f(i);}def f(a){out a;}", OUTPUT, "1 2 3 4 5 6 7 8");
    }

    private static void depth() {
        String down = "def f(n){if n{f(n-1);}else{out 7;}}";
        // f(9) is ten calls that are going on together, f(10) would be eleven.
        ends("f(0);" + down, DONE, "7");
        ends("f(9);" + down, DONE, "7");
        ends("f(10);" + down, DEPTH, "");
        ends("out f(9);def f(n){if n{return f(n-1)+1;}return 1;}", DONE, "10");
        ends("out f(10);def f(n){if n{return f(n-1)+1;}return 1;}", DEPTH, "");
        ends("f(4);def f(n){if n{g(n);}else{g(0);}}def g(n){if n{f(n-1);}else{out 7;}}", DONE, "7");
        ends("f(5);def f(n){if n{g(n);}else{g(0);}}def g(n){if n{f(n-1);}else{out 7;}}", DEPTH, "");
        // Calls that have ended are not going on, and arguments are known before the call.
        ends("f(9);f(9);f(9);" + down, DONE, "7 7 7");
        ends("while i<50{i=i+1;g();}out i;def g(){}", DONE, "50");
        ends("out f(f(f(f(f(f(f(f(1))))))));def f(a){return a+1;}", DONE, "9");
        ends("out f(9)+f(9);def f(n){if n{return f(n-1)+1;}return 1;}", DONE, "20");
    }

    private static void draftIsRun(Trial trial) {
        ProgramSchool school = new ProgramSchool();
        Check.due("an empty draft", DONE, trial.run(school, 0, 0, 0));
        Check.due("outputs of an empty draft", 0, school.outputs());
        Texts.append(school, "out 1;");
        Check.due("another draft", DONE, trial.run(school, 9, 0, 0));
        Check.due("its outputs", "1", Schools.outputsOf(school));
        Texts.append(school, "out 2;");
        Check.due("a longer draft", DONE, trial.run(school, 9, 0, 0));
        Check.due("its outputs", "1 2", Schools.outputsOf(school));
        Check.due("its fuel", 7, school.fuelLeft());
        school.erase(12);
        Texts.append(school, "#5=6;");
        Check.due("another draft", DONE, trial.run(school, 9, 0, 0));
        Check.due("its outputs", "", Schools.outputsOf(school));
        Check.due("its cell", 6, school.cellAt(5));
        Check.due("the draft stays", "#5=6;", Texts.draft(school));
    }

    private static void trialFuel(Trial trial) {
        Check.due("0 for nothing", DONE, trial.run(new ProgramSchool(), 0, 0, 0));
        Check.due("0 for a statement", FUEL, trial.run(Texts.school("a=1;"), 0, 0, 0));
        Check.due("1 for a statement", DONE, trial.run(Texts.school("a=1;"), 1, 0, 0));
        // Each turn takes 4, and the last question 2.
        String turns = "while i<1249{i=i+1;}a=1;a=1;";
        Check.due("4999 for 5000", FUEL, trial.run(Texts.school(turns), 4999, 0, 0));
        ProgramSchool school = Texts.school(turns);
        Check.due("5000 for 5000", DONE, trial.run(school, 5000, 0, 0));
        Check.due("nothing is left", 0, school.fuelLeft());
        school.erase(4);
        Check.due("5000 for 4999", DONE, trial.run(school, 5000, 0, 0));
        Check.due("1 is left", 1, school.fuelLeft());
        Texts.append(school, "a=1;a=1;");
        Check.due("5000 for 5001", FUEL, trial.run(school, 5000, 0, 0));
    }

    private static void firstInput(Trial trial) {
        for (int first : new int[] {0, 1, -1, 7, LEAST, GREATEST}) {
            ProgramSchool school = Texts.school("out in;");
            Check.due("trial with one input read", DONE, trial.run(school, 9, first, 5));
            Check.due("the first input", first, school.outputAt(0));
            Texts.set(school, "a=in;b=in;out a;");
            Check.due("trial with both read", DONE, trial.run(school, 9, first, 5));
            Check.due("the first input", first, school.outputAt(0));
        }
    }

    private static void secondInput(Trial trial) {
        for (int second : new int[] {0, 1, -1, 7, LEAST, GREATEST}) {
            ProgramSchool school = Texts.school("a=in;out in;");
            Check.due("trial", DONE, trial.run(school, 9, 5, second));
            Check.due("the second input", second, school.outputAt(0));
            Texts.append(school, "out in;");
            Check.due("there is no third one", INPUT, trial.run(school, 9, 5, second));
        }
    }

    private static void trialEnds(Trial trial) {
        for (int end = DONE; end <= DEPTH; end++) {
            Check.due("end of " + ENDING[end], end, trial.run(Texts.school(ENDING[end]), MOST_FUEL, 5, 9));
        }
        // As it ends with these inputs and this fuel.
        ProgramSchool school = Texts.school("out 1/in;");
        Check.due("by 0", DIVISION, trial.run(school, 9, 0, 1));
        Check.due("by 1", DONE, trial.run(school, 9, 1, 0));
        Check.due("by 1 with little fuel", FUEL, trial.run(school, 2, 1, 0));
    }

    private static void trialRefusesFuel(Trial trial) {
        for (String text : new String[] {"", "out 1;", "out"}) {
            ProgramSchool school = Texts.school(text);
            for (int fuel : new int[] {-1, -2, 5001, 5002, LEAST, GREATEST}) {
                Check.throwsArgument("fuel " + fuel + " for " + text, () -> trial.run(school, fuel, 0, 0));
            }
        }
        Check.due("fuel 0", DONE, trial.run(new ProgramSchool(), 0, 0, 0));
        Check.due("fuel 5000", DONE, trial.run(new ProgramSchool(), 5000, 0, 0));
    }

    private static void trialRefusesFault(Trial trial) {
        for (int fault = ProgramSchool.SIGN; fault <= ProgramSchool.COUNT; fault++) {
            ProgramSchool school = Texts.school(DraftBounds.FAULTY[fault]);
            Check.throwsState("trial of " + DraftBounds.FAULTY[fault], () -> trial.run(school, 100, 0, 0));
            Check.throwsState("trial without fuel of " + DraftBounds.FAULTY[fault], () -> trial.run(school, 0, 0, 0));
        }
        Check.due("trial of " + DraftBounds.FAULTY[0], DONE, trial.run(Texts.school(DraftBounds.FAULTY[0]), 100, 0, 0));
        ProgramSchool school = Texts.school("a=1;?");
        Check.throwsState("with a fault", () -> trial.run(school, 9, 0, 0));
        school.erase(1);
        Check.due("without it", DONE, trial.run(school, 9, 0, 0));
    }

    private static void outputsOfLast() {
        ProgramSchool school = new ProgramSchool();
        Check.due("without a trial", 0, school.outputs());
        for (int count = 0; count <= 9; count++) {
            Texts.set(school, "while i<in{i=i+1;out 7;}".replace("in", Integer.toString(count)));
            Check.due("end", count > 8 ? OUTPUT : DONE, count % 2 == 0 ? school.trial(99, 0, 0) : school.trialByTree(99, 0, 0));
            Check.due("outputs", Math.min(count, 8), school.outputs());
        }
        school.erase(1);
        Check.throwsState("a refused trial", () -> school.trial(99, 0, 0));
        Check.throwsArgument("another refused trial", () -> school.trialByTree(5001, 0, 0));
        Check.due("outputs after a refused trial", 8, school.outputs());
        school.wipe();
        Check.due("a trial that makes none", DONE, school.trial(0, 0, 0));
        Check.due("outputs", 0, school.outputs());
    }

    private static void outputOfLast() {
        ProgramSchool school = Texts.school("out in;out in;");
        school.trial(9, LEAST, GREATEST);
        Check.due("least", LEAST, school.outputAt(0));
        Check.due("greatest", GREATEST, school.outputAt(1));
        school.trialByTree(9, 3, 4);
        Check.due("of the next trial", 3, school.outputAt(0));
        school.addExercise(9, 0);
        school.addTest(0, 1, 7, 8, 0, 0, 0);
        school.hand(0, 0);
        school.markAnew(0);
        Check.due("runs of answers are no trials", 4, school.outputAt(1));
        school.trial(3, 5, 6);
        Check.due("of a trial that ended early", 5, school.outputAt(0));
        Check.due("its outputs", 1, school.outputs());
    }

    private static void outputPlaces() {
        ProgramSchool school = Texts.school("while i<8{i=i+1;out i*i;}");
        school.trial(99, 0, 0);
        for (int i = 0; i < 8; i++) {
            Check.due("outputAt(" + i + ")", (i + 1) * (i + 1), school.outputAt(i));
        }
    }

    private static void outputRefused() {
        ProgramSchool school = new ProgramSchool();
        for (int count = 0; count <= 8; count++) {
            for (int place : new int[] {-1, count, count + 1, 8, LEAST, GREATEST}) {
                Check.throwsIndex("outputAt(" + place + ") of " + count, () -> school.outputAt(place));
            }
            Texts.append(school, "out 7;");
            school.trial(99, 0, 0);
            if (count < 8) {
                Check.due("the last one", 7, school.outputAt(count));
            }
        }
        school.wipe();
        school.trial(99, 0, 0);
        Check.throwsIndex("outputAt(0) after a trial that makes none", () -> school.outputAt(0));
    }

    private static void fuelOfLast() {
        ProgramSchool school = new ProgramSchool();
        Check.due("without a trial", 0, school.fuelLeft());
        school.trial(5000, 0, 0);
        Check.due("all", 5000, school.fuelLeft());
        Texts.append(school, "a=1;a=1;");
        school.trialByTree(3, 0, 0);
        Check.due("of 3 for 2", 1, school.fuelLeft());
        school.trial(2, 0, 0);
        Check.due("of 2 for 2", 0, school.fuelLeft());
        school.trialByTree(1, 0, 0);
        Check.due("of 1 for 2", 0, school.fuelLeft());
        school.trial(9, 0, 0);
        Check.throwsArgument("a refused trial", () -> school.trial(-1, 0, 0));
        Check.due("after a refused trial", 7, school.fuelLeft());
        Texts.append(school, "a=1/0;a=1;");
        school.trial(9, 0, 0);
        Check.due("of a run that ends early", 5, school.fuelLeft());
    }

    private static void cellOfLast() {
        ProgramSchool school = new ProgramSchool();
        for (int i = 0; i < 32; i++) {
            Check.due("without a trial", 0, school.cellAt(i));
        }
        Texts.append(school, "#0=in;#31=in;#0=#0+1;");
        school.trial(99, 5, LEAST);
        Check.due("cell 0 at the end", 6, school.cellAt(0));
        Check.due("cell 31", LEAST, school.cellAt(31));
        school.trialByTree(4, 7, 8);
        Check.due("cell 0 of a run that ended early", 7, school.cellAt(0));
        Check.due("cell 31 of it", 8, school.cellAt(31));
        school.addExercise(9, 0);
        school.addTest(0, 1, 1, 2, 0, 0, 0);
        school.hand(0, 0);
        school.markAnew(0);
        Check.due("runs of answers are no trials", 7, school.cellAt(0));
        school.wipe();
        Check.due("cell 0 after wipe", 7, school.cellAt(0));
        school.trial(0, 0, 0);
        Check.due("cell 0 of another trial", 0, school.cellAt(0));
        Check.due("cell 31 of another trial", 0, school.cellAt(31));
    }

    private static void cellPlaces() {
        ProgramSchool school = Texts.school("while i<32{#i=i+100;i=i+1;}");
        school.trial(5000, 0, 0);
        for (int i = 0; i < 32; i++) {
            Check.due("cellAt(" + i + ")", i + 100, school.cellAt(i));
        }
        school.trialByTree(5000, 0, 0);
        Check.due("cellAt(0) by tree", 100, school.cellAt(0));
        Check.due("cellAt(31) by tree", 131, school.cellAt(31));
    }

    private static void cellRefused() {
        ProgramSchool school = new ProgramSchool();
        for (int trials = 0; trials < 2; trials++) {
            for (int cell : new int[] {-1, 32, 33, LEAST, GREATEST}) {
                Check.throwsIndex("cellAt(" + cell + ") after " + trials + " trials", () -> school.cellAt(cell));
            }
            school.trial(9, 0, 0);
        }
    }
}
