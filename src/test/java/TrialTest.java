/** Promises 10 to 15: trial, trialByTree, outputs, outputAt, fuelLeft, cellAt. */
public final class TrialTest {
    private static final int DONE = ProgramSchool.DONE, FUEL = ProgramSchool.FUEL, OVERFLOW = ProgramSchool.OVERFLOW,
            DIVISION = ProgramSchool.DIVISION, CELL = ProgramSchool.CELL, INPUT = ProgramSchool.INPUT,
            OUTPUT = ProgramSchool.OUTPUT, DEPTH = ProgramSchool.DEPTH;
    private static final String LEAST = "(-2147483647-1)";

    public static void main(String[] args) {
        refused();
        lastTrial();
        statements();
        fuelOfStatements();
        fuelOfExpressions();
        levels();
        marks();
        lazyMarks();
        overflow();
        division();
        cells();
        inputs();
        outputs();
        calls();
        depth();
        fuelFirst();
        deepest();
        longestWays();
        firstCalls();
        afterEarlyEnds();
        Check.end("TrialTest");
    }

    /** A trial in both ways: how it ends, what fuel is left, and the outputs, with blanks between them. */
    static void run(String text, int fuel, int first, int second, int end, int left, String outputs) {
        ProgramSchool school = Texts.school(text);
        Check.due("fault of " + text, ProgramSchool.NO_FAULT, school.fault());
        for (int way = 0; way < 2; way++) {
            String what = (way == 0 ? "trial" : "trialByTree") + "(" + fuel + ", " + first + ", " + second + ") of " + text;
            Check.due(what, end, way == 0 ? school.trial(fuel, first, second) : school.trialByTree(fuel, first, second));
            Check.due("fuelLeft after " + what, left, school.fuelLeft());
            StringBuilder made = new StringBuilder();
            for (int i = 0; i < school.outputs(); i++) {
                made.append(i == 0 ? "" : " ").append(school.outputAt(i));
            }
            Check.due("outputs of " + what, outputs, made.toString());
        }
    }

    /** A program that is DONE, with the fuel that it takes. */
    static void takes(String text, int fuel, String outputs) {
        run(text, 1000, 0, 0, DONE, 1000 - fuel, outputs);
        run(text, fuel, 0, 0, DONE, 0, outputs);
        if (fuel > 0) {
            ProgramSchool school = Texts.school(text);
            Check.due("trial with too little fuel of " + text, FUEL, school.trial(fuel - 1, 0, 0));
            Check.due("fuelLeft", 0, school.fuelLeft());
            Check.due("trialByTree with too little fuel of " + text, FUEL, school.trialByTree(fuel - 1, 0, 0));
            Check.due("fuelLeft", 0, school.fuelLeft());
        }
    }

    /** The value of an expression. */
    private static void value(String expression, int value) {
        run("out " + expression + ";", 1000, 5, 9, DONE, fuelLeft("out " + expression + ";"), Integer.toString(value));
    }

    private static int fuelLeft(String text) {
        ProgramSchool school = Texts.school(text);
        school.trial(1000, 5, 9);
        return school.fuelLeft();
    }

    private static void ends(String text, int end, String outputs) {
        run(text, 1000, 5, 9, end, fuelLeft(text), outputs);
    }

    private static void refused() {
        ProgramSchool school = Texts.school("out 1;");
        Check.throwsArgument("fuel -1", () -> school.trial(-1, 0, 0));
        Check.throwsArgument("fuel 5001", () -> school.trial(5001, 0, 0));
        Check.throwsArgument("fuel least int", () -> school.trial(Integer.MIN_VALUE, 0, 0));
        Check.throwsArgument("fuel greatest int", () -> school.trial(Integer.MAX_VALUE, 0, 0));
        Check.throwsArgument("fuel -1 by tree", () -> school.trialByTree(-1, 0, 0));
        Check.throwsArgument("fuel 5001 by tree", () -> school.trialByTree(5001, 0, 0));
        Check.due("fuel 5000", DONE, school.trial(5000, 0, 0));
        Check.due("fuelLeft", 4999, school.fuelLeft());
        Check.due("fuel 5000 by tree", DONE, school.trialByTree(5000, 0, 0));
        Check.due("fuelLeft", 4999, school.fuelLeft());
        Check.due("fuel 0", FUEL, school.trial(0, 0, 0));
        Check.due("fuel 0 by tree", FUEL, school.trialByTree(0, 0, 0));
        school.trial(7, 0, 0);
        school.erase(1);
        Check.throwsState("trial of a faulty draft", () -> school.trial(0, 0, 0));
        Check.throwsState("trialByTree of a faulty draft", () -> school.trialByTree(5000, 0, 0));
        Check.throwsArgument("both wrong", () -> school.trial(5001, 0, 0));
        Check.throwsArgument("both wrong by tree", () -> school.trialByTree(-1, 0, 0));
        Check.due("fuelLeft of the last trial", 6, school.fuelLeft());
        Check.due("outputs of the last trial", 1, school.outputs());
    }

    private static void lastTrial() {
        ProgramSchool school = Texts.school("#in=in;out #0;out #1;");
        Check.due("trial", DONE, school.trial(100, 1, 7));
        Check.due("cellAt(1)", 7, school.cellAt(1));
        Check.due("cellAt(0)", 0, school.cellAt(0));
        Check.throwsIndex("cellAt(-1)", () -> school.cellAt(-1));
        Check.throwsIndex("cellAt(32)", () -> school.cellAt(32));
        Check.throwsIndex("cellAt(least)", () -> school.cellAt(Integer.MIN_VALUE));
        Check.throwsIndex("outputAt(-1)", () -> school.outputAt(-1));
        Check.throwsIndex("outputAt(2)", () -> school.outputAt(2));
        Check.throwsIndex("outputAt(greatest)", () -> school.outputAt(Integer.MAX_VALUE));
        school.wipe();
        Check.due("outputs after wipe", 2, school.outputs());
        Check.due("outputAt(1) after wipe", 7, school.outputAt(1));
        Texts.append(school, "out 4;");
        school.addExercise(100, 0);
        school.addTest(0, 1, 0, 0, 1, 4, 0);
        school.hand(0, 0);
        school.markAnew(0);
        Check.due("cellAt(1) after runs of an answer", 7, school.cellAt(1));
        Check.due("fuelLeft after runs of an answer", 93, school.fuelLeft());
        Check.due("outputAt(1) after runs of an answer", 7, school.outputAt(1));
        Check.due("trialByTree", DONE, school.trialByTree(3, 0, 0));
        Check.due("cellAt(1) after another trial", 0, school.cellAt(1));
        Check.due("outputs after another trial", 1, school.outputs());
        Check.due("outputAt(0) after another trial", 4, school.outputAt(0));
        Check.due("fuelLeft after another trial", 2, school.fuelLeft());
        Check.throwsIndex("outputAt(1) after another trial", () -> school.outputAt(1));
    }

    private static void statements() {
        takes("", 0, "");
        takes("a=1;", 1, "");
        takes("a=b;out a;", 2, "0");
        takes("a=1;a=a;out a;", 3, "1");
        takes("if 1{out 1;}", 2, "1");
        takes("if 0{out 1;}", 1, "");
        takes("if 0{out 1;}else{out 2;}out 3;", 3, "2 3");
        takes("if 7{out 1;}else{out 2;}out 3;", 3, "1 3");
        takes("if 0-1{out 1;}", 3, "1");
        takes("if 1{if 0{out 1;}else{out 2;}}else{out 3;}out 4;", 4, "2 4");
        takes("if 0{if 0{out 1;}else{out 2;}}else{if 1{out 3;}}out 4;", 4, "3 4");
        takes("if 1{}else{out 1;}out 2;", 2, "2");
        takes("if 0{}else{}out 2;", 2, "2");
        takes("while 0{out 1;}out 2;", 2, "2");
        takes("i=3;while i{out i;i=i-1;}", 14, "3 2 1");
        takes("while i<2{j=0;while j<2{out i*2+j;j=j+1;}i=i+1;}", 44, "0 1 2 3");
        takes("while 1-#0{if #0==0{#0=1;}}", 10, "");
        takes("def f(){out 1;}", 0, "");
        takes("def f(){out 1;}out 2;def g(){out 3;}", 1, "2");
        takes("out 1;def f(){return 2;}out f();out 3;", 5, "1 2 3");
    }

    private static void fuelOfStatements() {
        takes("out 1;", 1, "1");
        takes("#1=2;", 1, "");
        takes("##1=2;", 2, "");
        takes("##1=2;out #0;", 4, "2");
        takes("f();def f(){}", 2, "");
        takes("f();def f(){return 1;}", 3, "");
        takes("f();def f(){return 1;out 2;}", 3, "");
        takes("if 1<2{}", 2, "");
        takes("while 1<0{}", 2, "");
    }

    private static void fuelOfExpressions() {
        takes("out ((1));", 1, "1");
        takes("out 1+2;", 2, "3");
        takes("out 1+2+3;", 3, "6");
        takes("out -1;", 2, "-1");
        takes("out --1;", 3, "1");
        takes("out !1;", 2, "0");
        takes("out #1;", 2, "0");
        takes("out in;", 2, "0");
        takes("out 1&&2;", 2, "1");
        takes("out 0&&1/0;", 2, "0");
        takes("out 1||1/0;", 2, "1");
        takes("out 0||2;", 2, "1");
        takes("out 0&&1&&1/0;", 3, "0");
        takes("out 1||1/0||1/0;", 3, "1");
        takes("out 1||1/0&&1/0;", 2, "1");
        takes("out 0&&(1/0||1/0)||3;", 3, "1");
        takes("out f(1+1,-2);def f(a,b){return a;}", 5, "2");
        takes("#(0||1)=0||3;out #1;", 5, "1");
        takes("if 0||2{out 1||0;}", 4, "1");
        takes("while 0||i<1{i=i+1;}", 8, "");
        takes("a=0||5;out a;", 3, "1");
        takes("out f(0||5,0||6);def f(a,b){return a||b;}", 6, "1");
    }

    private static void levels() {
        value("2+3*4", 14);
        value("(2+3)*4", 20);
        value("10-3-2", 5);
        value("10-(3-2)", 9);
        value("100/5/2", 10);
        value("100/5*2", 40);
        value("7-4%3*2+1", 6);
        value("1+1<2", 0);
        value("1<2==1", 1);
        value("2==1<2", 0);
        value("3>2>1", 0);
        value("1==1==0", 0);
        value("0==1!=1", 1);
        value("1||0&&0", 1);
        value("(1||0)&&0", 0);
        value("0&&0||1", 1);
        value("0==0&&2", 1);
        value("1&&2==0", 0);
        value("-1+2", 1);
        value("-2*-3", 6);
        value("!0+1", 2);
        value("!1==0", 1);
        value("!(1==0)", 1);
        value("-in-in", -14);
        value("in-in*10", -85);
        value("--1", 1);
        value("!!7", 1);
        value("-!0", -1);
    }

    private static void marks() {
        value("7/2", 3);
        value("-7/2", -3);
        value("7/-2", -3);
        value("-7/-2", 3);
        value("7%4", 3);
        value("-7%4", -3);
        value("7%-4", 3);
        value("-7%-4", -3);
        value("1<2", 1);
        value("2<2", 0);
        value("2<=2", 1);
        value("3<=2", 0);
        value("2>1", 1);
        value("2>2", 0);
        value("2>=2", 1);
        value("1>=2", 0);
        value("2==2", 1);
        value("2==3", 0);
        value("2!=2", 0);
        value("2!=3", 1);
        value("!5", 0);
        value("!0", 1);
        value("2147483647", 2147483647);
        value("-2147483647-1", Integer.MIN_VALUE);
        value(LEAST + "<2147483647", 1);
        value(LEAST + "%-1", 0);
        value(LEAST + "/1", Integer.MIN_VALUE);
        value("65536*32767", 2147418112);
    }

    private static void lazyMarks() {
        value("5&&7", 1);
        value("5&&0", 0);
        value("0&&5", 0);
        value("5||0", 1);
        value("0||-5", 1);
        value("0||0", 0);
        value("1||in+in+in", 1);
        value("0&&in+in+in", 0);
        value("(0&&(in||in))+in", 5);
        value("1||f(1,(2),f(3,4,5))", 1, "def f(a,b,c){return 1/0;}");
        value("0||1||1/0", 1);
        value("1&&0&&1/0", 0);
        value("0&&1/0||1&&3", 1);
        value("1||(((1/0)||1)&&0)", 1);
        ends("out 0||1/0;", DIVISION, "");
        ends("out 1&&1/0;", DIVISION, "");
    }

    private static void value(String expression, int value, String defs) {
        ends("out " + expression + ";" + defs, DONE, Integer.toString(value));
    }

    private static void overflow() {
        ends("out 2147483647+1;", OVERFLOW, "");
        ends("out " + LEAST + "-1;", OVERFLOW, "");
        ends("out " + LEAST + "+-1;", OVERFLOW, "");
        ends("out 65536*32768;", OVERFLOW, "");
        ends("out 65536*65536;", OVERFLOW, "");
        ends("out 2147483647*2147483647;", OVERFLOW, "");
        ends("out " + LEAST + "*" + LEAST + ";", OVERFLOW, "");
        ends("out " + LEAST + "*-1;", OVERFLOW, "");
        ends("out -" + LEAST + ";", OVERFLOW, "");
        ends("out " + LEAST + "/-1;", OVERFLOW, "");
        ends("out 1;a=2147483647;a=a+a;out 2;", OVERFLOW, "1");
        run("out in+in;", 9, Integer.MAX_VALUE, 1, OVERFLOW, 5, "");
        run("out in-in;", 9, Integer.MIN_VALUE, 1, OVERFLOW, 5, "");
        run("out -in;", 9, Integer.MIN_VALUE, 1, OVERFLOW, 6, "");
        run("out in/in;", 9, Integer.MIN_VALUE, -1, OVERFLOW, 5, "");
        run("out in%in;", 9, Integer.MIN_VALUE, -1, DONE, 5, "0");
    }

    private static void division() {
        ends("out 1/0;", DIVISION, "");
        ends("out 1%0;", DIVISION, "");
        ends("out 0/0;", DIVISION, "");
        ends("out 3;out 1/(2-2);out 4;", DIVISION, "3");
        ends("out " + LEAST + "%0;", DIVISION, "");
    }

    private static void cells() {
        takes("#0=5;#31=6;out #0;out #31;out #1;", 8, "5 6 0");
        ends("out #32;", CELL, "");
        ends("out #-1;", CELL, "");
        ends("#32=1;", CELL, "");
        ends("#-1=1;", CELL, "");
        ends("#" + LEAST + "=1;", CELL, "");
        // U comes first, then E, and only then is the cell looked for.
        ends("#32=in+in+in;", INPUT, "");
        ends("#in=in;out #5;", DONE, "9");
        ends("#f(1)=f(2);def f(a){out a;return a;}out #1;", DONE, "1 2 2");
        ends("#32=f(2);def f(a){out a;return a;}", CELL, "2");
        ends("f();def f(){#3=7;}out #3;", DONE, "7");
        ends("#2=1;#2=#2+#2;out #2;", DONE, "2");
        ends("#2=4;#4=8;out ##2;###7=3;out #0;", DONE, "8 3");
        ProgramSchool school = Texts.school("#5=-3;#6=1/0;");
        Check.due("trial", DIVISION, school.trial(50, 0, 0));
        Check.due("cell of a run that ended early", -3, school.cellAt(5));
        Check.due("cell that was not reached", 0, school.cellAt(6));
    }

    private static void inputs() {
        ends("out in;out in;", DONE, "5 9");
        ends("out in;out in;out in;", INPUT, "5 9");
        ends("a=in;b=in;while 1{c=in;}", INPUT, "");
        ends("out f()-f();def f(){return in;}", DONE, "-4");
        ends("f(in,in);def f(a,b){out b;out a;}", DONE, "9 5");
        run("out in;", 2, -1, 0, DONE, 0, "-1");
    }

    private static void outputs() {
        ends("while 1{i=i+1;out i;}", OUTPUT, "1 2 3 4 5 6 7 8");
        ends("while i<8{i=i+1;out i;}", DONE, "1 2 3 4 5 6 7 8");
        // The 9th expression is still asked.
        ends("while i<8{i=i+1;out i;}out 1/0;", DIVISION, "1 2 3 4 5 6 7 8");
        ends("while i<8{i=i+1;out i;}out 1;#1=1;", OUTPUT, "1 2 3 4 5 6 7 8");
    }

    private static void calls() {
        ends("out f(3,4);def f(a,b){return a*10+b;}", DONE, "34");
        ends("out f();def f(){}", DONE, "0");
        ends("out f();def f(){a=7;}", DONE, "0");
        ends("out f(1);def f(a){if a{return 2;}return 3;}", DONE, "2");
        ends("out f(0);def f(a){if a{return 2;}else{}return 3;}", DONE, "3");
        ends("out f();def f(){while 1{if 1{return 4;}}}", DONE, "4");
        ends("f();def f(){return 1;}out 2;", DONE, "2");
        // What a call comes to is for nothing in a call statement, also amid an expression.
        ends("out 5+f();def f(){g();return 1;}def g(){return 3;}", DONE, "6");
        ends("out 5+f();def f(){}", DONE, "5");
        ends("out 5+f()*2;def f(){if 1{while 1{return 4;}}}", DONE, "13");
        // Variables of a def are its own, and new for each call.
        ends("a=1;f();out a;def f(){out a;a=2;}", DONE, "0 1");
        ends("f();f();def f(){out a;a=2;}", DONE, "0 0");
        ends("out f(3);def f(n){if n<1{return 0;}m=f(n-1);return n+m;}", DONE, "6");
        ends("out f(5);def f(n){if n<2{return n;}return f(n-1)+f(n-2);}", DONE, "5");
        ends("out f(1,2,3,4,5,6,7,8);def f(a,b,c,d,e,f,g,h){return a-b+c-d+e-f+g-h*10;}", DONE, "-76");
        ends("out 1+f(2)*f(3);def f(a){return a+0;}", DONE, "7");
        ends("out f(f(f(1)));def f(a){return a*2;}", DONE, "8");
        ends("f=2;out f(f)+f;def f(f){return f*f;}", DONE, "6");
        ends("out g(1);def f(a){return a+1;}def g(a){return f(a)*f(a+1);}", DONE, "6");
        ends("def f(a){a=a+1;return a;}b=1;out f(b);out b;", DONE, "2 1");
        ends("if f(1){out 1;}while f(0){out 2;}def f(a){return a;}", DONE, "1");
        ends("out 5-f(in)-in;def f(a){if a{b=1+2*3;return b;}}", DONE, "-11");
    }

    private static void depth() {
        String down = "def f(n){if n{return f(n-1)+1;}return 1;}";
        ends("out f(9);" + down, DONE, "10");
        ends("out f(10);" + down, DEPTH, "");
        ends("f();def f(){f();}", DEPTH, "");
        ends("f();def f(){g();}def g(){f();}", DEPTH, "");
        ends("out f(9)+f(9);" + down, DONE, "20");
        ends("while i<30{i=i+1;g();}out i;def g(){}", DONE, "30");
        ends("out f(f(f(f(f(f(f(f(1))))))));def f(a){return a+1;}", DONE, "9");
        // Arguments are known before the call is refused.
        ends("f(9);def f(n){f(n-1+0/n);}", DIVISION, "");
        ends("f();def f(){f();out 1;}", DEPTH, "");
    }

    private static void fuelFirst() {
        run("out 1/0;", 1, 0, 0, FUEL, 0, "");
        run("out 1/0;", 2, 0, 0, DIVISION, 0, "");
        run("out 2147483647+1;", 1, 0, 0, FUEL, 0, "");
        run("out 2147483647+1;", 2, 0, 0, OVERFLOW, 0, "");
        run("out -" + LEAST + ";", 3, 0, 0, FUEL, 0, "");
        run("out -" + LEAST + ";", 4, 0, 0, OVERFLOW, 0, "");
        run("out #32;", 1, 0, 0, FUEL, 0, "");
        run("out #32;", 2, 0, 0, CELL, 0, "");
        run("#32=1;", 0, 0, 0, FUEL, 0, "");
        run("#32=1;", 1, 0, 0, CELL, 0, "");
        run("a=in;a=in;a=in;", 5, 0, 0, FUEL, 0, "");
        run("a=in;a=in;a=in;", 6, 0, 0, INPUT, 0, "");
        run("f();def f(){f();}", 21, 0, 0, FUEL, 0, "");
        run("f();def f(){f();}", 22, 0, 0, DEPTH, 0, "");
        run("while i<8{i=i+1;out i;}out 9;", 42, 0, 0, FUEL, 0, "1 2 3 4 5 6 7 8");
        run("while i<8{i=i+1;out i;}out 9;", 43, 0, 0, OUTPUT, 0, "1 2 3 4 5 6 7 8");
        run("out 1&&1/0;", 1, 0, 0, FUEL, 0, "");
        run("out 0&&1;", 1, 0, 0, FUEL, 0, "");
        run("while 1{}", 5000, 0, 0, FUEL, 0, "");
        run("", 0, 0, 0, DONE, 0, "");
        run("def f(){}", 0, 0, 0, DONE, 0, "");
    }

    /** As many things wait as can: all levels open in each of ten calls. */
    private static void deepest() {
        String marks = "0||1&&1==1<2+1*";
        StringBuilder inside = new StringBuilder();
        for (int i = 0; i < 6; i++) {
            inside.append(marks).append('(');
        }
        inside.append(marks).append("f(n-1)").append(")".repeat(6));
        ends("out f(7);def f(n){if n<1{return 1;}out n;return " + inside + ";}", DONE, "7 6 5 4 3 2 1 1");
        ends("out f(9);def f(n){if n<1{return 1;}return " + inside + ";}", DONE, "1");
        ends("out f(10);def f(n){if n<1{return 1;}return " + inside + ";}", DEPTH, "");
        String sevens = "f(1,1,1,1,1,1,1,".repeat(7) + "n-1" + ")".repeat(7);
        run("out f(1,1,1,1,1,1,1,9);def f(a,b,c,d,e,g,h,n){if n<1{return n;}return " + sevens + ";}", 5000, 0, 0, DONE, 4734, "0");
    }

    /** As much stands between two takings of fuel as can: all the fuel has to be taken all the same. */
    private static void longestWays() {
        String arguments = "((((((0)))))),".repeat(7) + "((((((0))))))";
        run("while 1{f(" + arguments + ");}def f(a,b,c,d,e,g,h,i){}", 5000, 0, 0, FUEL, 0, "");
        run("while n<832{n=n+1;f(" + arguments + ");}out n;def f(a,b,c,d,e,g,h,i){}", 5000, 0, 0, DONE, 5, "832");
        run("while n<832{n=n+1;f(" + arguments + ");}out n;def f(a,b,c,d,e,g,h,i){}", 4995, 0, 0, DONE, 0, "832");
    }

    /** Each call that needs the program reads the draft itself. */
    private static void firstCalls() {
        Check.due("trial first", DONE, Texts.school("a=1;").trial(9, 0, 0));
        Check.due("trialByTree first", DONE, Texts.school("a=1;").trialByTree(9, 0, 0));
        Check.due("draftParts first", 1, Texts.school("a=1;").draftParts());
        Check.due("fault first", ProgramSchool.SIGN, Texts.school("a=1;$").fault());
        Check.due("faultPlace first", 4, Texts.school("a=1;$").faultPlace());
        Check.throwsState("trial first of a fault", () -> Texts.school("a=1;$").trial(9, 0, 0));
        Check.throwsState("trialByTree first of a fault", () -> Texts.school("a=1;$").trialByTree(9, 0, 0));
        Check.throwsState("draftParts first of a fault", () -> Texts.school("a=1;$").draftParts());
        ProgramSchool school = Texts.school("out 1;");
        school.addExercise(9, 0);
        Check.due("hand first", 0, school.hand(0, 0));
        Texts.set(school, "out 1;$");
        Check.throwsState("hand of a fault", () -> school.hand(0, 0));
    }

    /** Nothing of a run that ends amid much is left for the next one. */
    private static void afterEarlyEnds() {
        ProgramSchool school = Texts.school("f(9);def f(n){#1=2+3*(4+(5-(1&&f(n-1+0/n))));}");
        for (int i = 0; i < 60; i++) {
            Check.due("trial", DIVISION, school.trial(5000, 0, 0));
            Check.due("trialByTree", DIVISION, school.trialByTree(5000, 0, 0));
            Check.due("trial with little fuel", FUEL, school.trial(i, 0, 0));
            Check.due("trialByTree with little fuel", FUEL, school.trialByTree(i, 0, 0));
        }
        Texts.set(school, "out 1+2*(3-in)+f(a);def f(b){return b+c;}");
        for (int way = 0; way < 2; way++) {
            Check.due("end", DONE, way == 0 ? school.trial(50, 7, 0) : school.trialByTree(50, 7, 0));
            Check.due("outputs", 1, school.outputs());
            Check.due("output", -7, school.outputAt(0));
            Check.due("cell", 0, school.cellAt(1));
        }
    }
}
