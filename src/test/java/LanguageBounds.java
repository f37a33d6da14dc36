/** The bounds of the language: the sentences of "The language". */
final class LanguageBounds {
    private static final int NO_FAULT = ProgramSchool.NO_FAULT, SIGN = ProgramSchool.SIGN, NUMBER = ProgramSchool.NUMBER,
            UNEXPECTED = ProgramSchool.UNEXPECTED, NESTED = ProgramSchool.NESTED, NAMES = ProgramSchool.NAMES,
            DOUBLE = ProgramSchool.DOUBLE, UNKNOWN = ProgramSchool.UNKNOWN, COUNT = ProgramSchool.COUNT;
    private static final int MOST_LEVELS = 8;
    private static final String EIGHT_NAMES = "a=b;c=d;e=f;g=h;";
    private static final String BINARY = "|| && == != < <= > >= + - * / %";
    /** What an operand begins with. */
    private static final String OPERANDS = "- ! # 7 x in (";
    private static final String[] TOKENS = (BINARY + " ! # = ( ) { } , ; 7 x if else while out in def return").split(" ");

    private LanguageBounds() {
    }

    static void test() {
        Sentence.section("The language");
        Sentence.holds("A program is a row of statements to the end of the text.", LanguageBounds::program);
        Sentence.holds("A block is {, a row of statements, and }.", LanguageBounds::block);
        statements();
        Sentence.holds("An expression is of the level 1.", LanguageBounds::expression);
        Sentence.holds("Of the levels 1 to 6 it is one of the next level, or some of these with marks of its level between them, "
                + "taken from the left: 1 ||, 2 &&, 3 == and !=, 4 < <= > and >=, 5 + and -, 6 * / and %.", LanguageBounds::levels);
        Sentence.holds("taken from the left:", LanguageBounds::fromTheLeft);
        Sentence.holds("Of the level 7 it is one of the marks - ! # and an expression of the level 7; or a number, a name, "
                + "a call (name ( arguments ), arguments being expressions with , between two of them, or none), in, or ( E ).", LanguageBounds::operands);
        Sentence.holds("A name with ( behind it is that of a def; other names are variables.", LanguageBounds::namesOfDefs);
        Sentence.holds("The variables of a def are those in its block, and its parameters; "
                + "the others are those of the program outside of all defs.", LanguageBounds::variables);
        faults();
    }

    private static void statements() {
        Sentence.holds("Statements are (E is an expression):", LanguageBounds::noOtherStatements);
        Sentence.holds("- name = E ;", () -> form("a", "=", "1", ";"));
        Sentence.holds("- # U = E ; where U is an expression of the level 7,", LanguageBounds::cellStatement);
        Sentence.holds("- name ( arguments ) ; a call,", LanguageBounds::callStatement);
        Sentence.holds("- out E ;", () -> form("out", "1", ";"));
        Sentence.holds("- if E block, or if E block else block", LanguageBounds::ifStatement);
        Sentence.holds("- while E block", LanguageBounds::whileStatement);
        Sentence.holds("- def name ( parameters ) block, which is not in a block itself;", LanguageBounds::defStatement);
        Sentence.holds("parameters are names with , between two of them, or none,", LanguageBounds::parameters);
        Sentence.holds("- return E ; which is in the block of a def.", LanguageBounds::returnStatement);
    }

    private static void faults() {
        Sentence.holds("Faults of a text. Reading goes from the first token on; the first token at which it fails is the fault's place:", LanguageBounds::firstFault);
        Sentence.holds("- SIGN: a sign that is none of the above (also a single & or |),", LanguageBounds::signFault);
        Sentence.holds("- NUMBER: a number above 2147483647,", LanguageBounds::numberFault);
        Sentence.holds("- UNEXPECTED: a token that cannot stand there,", LanguageBounds::unexpectedToken);
        Sentence.holds("or the end of the text where something must follow (its place is the length of the text),", LanguageBounds::unexpectedEnd);
        Sentence.holds("- NESTED: a mark that would open the 9th level;", LanguageBounds::ninthLevel);
        Sentence.holds("levels are open from a (, also of a call or of parameters, to its ),", LanguageBounds::levelsOfParentheses);
        Sentence.holds("from a { to its },", LanguageBounds::levelsOfBlocks);
        Sentence.holds("and from a mark - ! # of the level 7, and # of a statement, to the end of the expression behind it,", LanguageBounds::levelsOfMarks);
        Sentence.holds("- NAMES: a name that would be the 9th different variable of its def, or of the program outside", LanguageBounds::ninthName);
        Sentence.holds("(a parameter whatever stands behind it; any other one that is not behind def, if no \"(\" does),", LanguageBounds::whatIsAVariable);
        Sentence.holds("- DOUBLE: the name of a def that an earlier one has,", LanguageBounds::doubleDef);
        Sentence.holds("or a parameter that the same def has already.", LanguageBounds::doubleParameter);
        Sentence.holds("If there is none of these: UNKNOWN, for the name of a call of which there is no def,", LanguageBounds::unknown);
        Sentence.holds("and COUNT, for one with another number of arguments than its def has parameters;", LanguageBounds::count);
        Sentence.holds("the lowest place of both kinds.", LanguageBounds::lowestPlace);
    }

    /** A statement has all of its tokens, in their order, and none more. */
    private static void form(String... tokens) {
        String whole = String.join(" ", tokens);
        Check.due("fault of " + whole, NO_FAULT, Texts.school(whole).fault());
        StringBuilder begun = new StringBuilder();
        for (int i = 0; i < tokens.length; i++) {
            if (i > 0) {
                FaultTest.fault(begun.toString(), UNEXPECTED, begun.length());
                // What cannot stand there, at each token's place.
                FaultTest.fault(begun + "else", UNEXPECTED, begun.length());
            }
            begun.append(tokens[i]).append(' ');
        }
    }

    private static void value(String expression, int value) {
        ProgramSchool school = Texts.school("out " + expression + ";def f(a){return a;}def g(){return 5;}");
        Check.due("trial of " + expression, ProgramSchool.DONE, school.trial(99, 7, 8));
        Check.due(expression, value, school.outputs() == 1 ? school.outputAt(0) : -99);
        Check.due("trialByTree of " + expression, ProgramSchool.DONE, school.trialByTree(99, 7, 8));
        Check.due(expression + " by tree", value, school.outputs() == 1 ? school.outputAt(0) : -99);
    }

    private static void program() {
        FaultTest.fine("", 0);
        FaultTest.fine("a=1;", 1);
        FaultTest.fine("a=1;b=2;if a{}", 3);
        FaultTest.fine("a=1;".repeat(75), 75);
        FaultTest.fault("a=1;;", UNEXPECTED, 4);
        FaultTest.fault("a=1;}", UNEXPECTED, 4);
        FaultTest.fault("a=1;,", UNEXPECTED, 4);
        FaultTest.fault("a=1;2", UNEXPECTED, 4);
        FaultTest.fault("a=1;b", UNEXPECTED, 5);
    }

    private static void block() {
        FaultTest.fine("if 1{}", 1);
        FaultTest.fine("if 1{a=1;}", 2);
        FaultTest.fine("while 1{a=1;b=2;}", 3);
        FaultTest.fault("if 1{a=1;", UNEXPECTED, 9);
        FaultTest.fault("if 1{", UNEXPECTED, 5);
        FaultTest.fault("if 1 a=1;}", UNEXPECTED, 5);
        FaultTest.fault("if 1}", UNEXPECTED, 4);
        FaultTest.fault("if 1{{}}", UNEXPECTED, 5);
        FaultTest.fault("if 1{}}", UNEXPECTED, 6);
        FaultTest.fault("if 1{;}", UNEXPECTED, 5);
        FaultTest.fault("if 1{a=1}", UNEXPECTED, 8);
    }

    private static void noOtherStatements() {
        for (String begin : new String[] {"1", "in", "(", ")", "{", "}", ";", ",", "-", "!", "=", "else", "return 1;", "+", "<=", "&&"}) {
            FaultTest.fault(begin, UNEXPECTED, 0);
            FaultTest.fault("a=1;" + begin, UNEXPECTED, 4);
            if (!begin.equals("}") && !begin.startsWith("return")) {
                FaultTest.fault("def f(){" + begin, UNEXPECTED, 8);
            }
        }
        FaultTest.fine("a=1;#1=1;f();out 1;if 1{}while 1{}def f(){return 1;}", 8);
    }

    private static void cellStatement() {
        form("#", "1", "=", "2", ";");
        FaultTest.fine("#a=1;#in=1;#(1+2)=1;#f()=1;#-1=1;#!1=1;##1=1;def f(){}", 8);
        for (String mark : new String[] {"||", "&&", "==", "!=", "<", "<=", ">", ">=", "+", "-", "*", "/", "%"}) {
            FaultTest.fault("#1" + mark + "2=3;", UNEXPECTED, 2);
            FaultTest.fine("#(1" + mark + "2)=3" + mark + "4;", 1);
        }
    }

    private static void callStatement() {
        FaultTest.fine("f();def f(){}", 2);
        FaultTest.fine("f(1);def f(a){}", 2);
        FaultTest.fine("f(1,2);def f(a,b){}", 2);
        FaultTest.fault("f(", UNEXPECTED, 2);
        FaultTest.fault("f()", UNEXPECTED, 3);
        FaultTest.fault("f(1", UNEXPECTED, 3);
        FaultTest.fault("f(1,", UNEXPECTED, 4);
        FaultTest.fault("f(1,2", UNEXPECTED, 5);
        FaultTest.fault("f();;", UNEXPECTED, 4);
        FaultTest.fault("f()=1;", UNEXPECTED, 3);
        FaultTest.fault("f()+1;", UNEXPECTED, 3);
    }

    private static void ifStatement() {
        form("if", "1", "{", "}");
        FaultTest.fine("if 1{}else{}", 1);
        FaultTest.fault("if 1{}else", UNEXPECTED, 10);
        FaultTest.fault("if 1{}else{", UNEXPECTED, 11);
        FaultTest.fault("if 1{}else a=1;", UNEXPECTED, 11);
        FaultTest.fault("if 1{}else{}else{}", UNEXPECTED, 12);
        FaultTest.fault("if 1{}else if 1{}", UNEXPECTED, 11);
        FaultTest.fault("if 1{}a=1;else{}", UNEXPECTED, 10);
        FaultTest.fault("else{}", UNEXPECTED, 0);
        FaultTest.fine("if 1{if 1{}else{}}else{if 1{}else{}}", 3);
        TrialTest.takes("if 1{if 0{out 1;}}else{out 2;}", 2, "");
        TrialTest.takes("if 0{if 0{out 1;}}else{out 2;}", 2, "2");
    }

    private static void whileStatement() {
        form("while", "0", "{", "}");
        FaultTest.fault("while 1{}else{}", UNEXPECTED, 9);
        FaultTest.fault("while{}", UNEXPECTED, 5);
        FaultTest.fault("while 1;", UNEXPECTED, 7);
    }

    private static void defStatement() {
        form("def", "f", "(", ")", "{", "}");
        FaultTest.fine("if 1{}def f(){}if 1{}", 3);
        FaultTest.fine("def f(){}def g(){if 1{}else{}}def h(){}", 4);
        FaultTest.fault("if 1{def f(){}}", UNEXPECTED, 5);
        FaultTest.fault("if 1{}else{def f(){}}", UNEXPECTED, 11);
        FaultTest.fault("while 1{def f(){}}", UNEXPECTED, 8);
        FaultTest.fault("def f(){def g(){}}", UNEXPECTED, 8);
        FaultTest.fault("def f(){if 1{}def g(){}}", UNEXPECTED, 14);
        FaultTest.fault("def f(){if 1{def g(){}}}", UNEXPECTED, 13);
        FaultTest.fault("if 1{def", UNEXPECTED, 5);
    }

    private static void parameters() {
        FaultTest.fine("def f(){}", 1);
        FaultTest.fine("def f(a){}", 1);
        FaultTest.fine("def f(a,b){}", 1);
        FaultTest.fine("def f(a,b,c,d,e,f,g,h){}", 1);
        FaultTest.fault("def f(,){}", UNEXPECTED, 6);
        FaultTest.fault("def f(a,){}", UNEXPECTED, 8);
        FaultTest.fault("def f(,a){}", UNEXPECTED, 6);
        FaultTest.fault("def f(a,,b){}", UNEXPECTED, 8);
        FaultTest.fault("def f(a b){}", UNEXPECTED, 8);
        FaultTest.fault("def f(1){}", UNEXPECTED, 6);
        FaultTest.fault("def f(in){}", UNEXPECTED, 6);
        FaultTest.fault("def f(a+b){}", UNEXPECTED, 7);
        FaultTest.fault("def f((a)){}", UNEXPECTED, 6);
        FaultTest.fault("def f(-a){}", UNEXPECTED, 6);
    }

    private static void returnStatement() {
        FaultTest.fine("def f(){return 1;}", 2);
        FaultTest.fine("def f(){if 1{while 1{return 1;}}else{return 2;}return 3;}", 6);
        FaultTest.fault("return 1;", UNEXPECTED, 0);
        FaultTest.fault("if 1{return 1;}", UNEXPECTED, 5);
        FaultTest.fault("while 1{return 1;}", UNEXPECTED, 8);
        FaultTest.fault("def f(){}return 1;", UNEXPECTED, 9);
        FaultTest.fault("def f(){return 1;}if 1{return 1;}", UNEXPECTED, 23);
        FaultTest.fault("def f(){return;}", UNEXPECTED, 14);
        FaultTest.fault("def f(){return 1}", UNEXPECTED, 16);
        FaultTest.fault("def f(){return}", UNEXPECTED, 14);
    }

    private static void expression() {
        // Wherever an expression stands, one of the lowest level may.
        FaultTest.fine("a=1||2;out 1||2;#1=1||2;if 1||2{}while 1||2{}", 5);
        FaultTest.fine("f(1||2,3||4);def f(a,b){return 1||2;}out (1||2);", 4);
        FaultTest.fault("a=1||2 3;", UNEXPECTED, 7);
        FaultTest.fault("a=;", UNEXPECTED, 2);
    }

    /** Each two levels that are next to one another, in both orders. */
    private static void levels() {
        value("1||0&&0", 1);
        value("0&&0||1", 1);
        value("0&&0==0", 0);
        value("0==0&&0", 0);
        value("0&&1!=1", 0);
        value("1!=1&&0", 0);
        value("1==2<1", 0);
        value("2<1==0", 1);
        value("2==2>3", 0);
        value("2!=1<=1", 1);
        value("3>=2!=0", 1);
        value("2<1+1", 0);
        value("1+1<2", 0);
        value("5>4-1", 1);
        value("2-1>=2", 0);
        value("5<=4+1", 1);
        value("1+1*2", 3);
        value("2*1+1", 3);
        value("7-4/2", 5);
        value("4/2-1", 1);
        value("7-5%3", 5);
        value("7%4+1", 4);
        value("!1*0", 0);
        value("2*!0", 2);
        value("!0+1", 2);
        value("-7%4", -3);
        value("!1==0", 1);
        value("-1<0", 1);
        // One of the next level is enough for each.
        value("1", 1);
        value("(((1)))", 1);
        value("1||2", 1);
        // Marks of one level beside one another.
        value("7-2+1", 6);
        value("8/4*3", 6);
        value("8%5*2", 6);
        value("3>2>=1", 1);
        value("3==3!=0", 1);
    }

    private static void fromTheLeft() {
        value("9-3-2", 4);
        value("9-3+2", 8);
        value("64/8/2", 4);
        value("64/8*2", 16);
        value("8%5*2", 6);
        value("7*3%4", 1);
        value("3>2>1", 0);
        value("1<2<1", 0);
        value("2==2==1", 1);
        value("5!=5==0", 1);
        value("in-in", -1);
        value("10*in+in", 78);
    }

    private static void operands() {
        value("-1", -1);
        value("--1", 1);
        value("-!!5", -1);
        value("#1", 0);
        value("##1", 0);
        value("-#!1", 0);
        value("a", 0);
        value("in", 7);
        value("(1)", 1);
        value("-(1)", -1);
        value("g()", 5);
        value("f(6)", 6);
        value("f(g())", 5);
        value("-f(6)", -6);
        FaultTest.fine("out f(1,2,3);def f(a,b,c){}", 2);
        FaultTest.fault("out ();", UNEXPECTED, 5);
        FaultTest.fault("out (1;", UNEXPECTED, 6);
        FaultTest.fault("out (1,2);", UNEXPECTED, 6);
        FaultTest.fault("out +1;", UNEXPECTED, 4);
        FaultTest.fault("out *1;", UNEXPECTED, 4);
        FaultTest.fault("out &&1;", UNEXPECTED, 4);
        FaultTest.fault("out -;", UNEXPECTED, 5);
        FaultTest.fault("out !;", UNEXPECTED, 5);
        FaultTest.fault("out #;", UNEXPECTED, 5);
        FaultTest.fault("out f(,);", UNEXPECTED, 6);
        FaultTest.fault("out f(1,);", UNEXPECTED, 8);
        FaultTest.fault("out f(1 2);", UNEXPECTED, 8);
        FaultTest.fault("out f(1,,2);", UNEXPECTED, 8);
        FaultTest.fault("out in();", UNEXPECTED, 6);
        FaultTest.fault("out 1();", UNEXPECTED, 5);
        FaultTest.fault("out f()();", UNEXPECTED, 7);
        FaultTest.fault("out def;", UNEXPECTED, 4);
        FaultTest.fault("out 1 -;", UNEXPECTED, 7);
    }

    private static void namesOfDefs() {
        TrialTest.takes("f=2;out f(f)+f;def f(a){return a*10;}", 6, "22");
        TrialTest.takes("f=2;out f (f)+f;def f (a){return a*10;}", 6, "22");
        FaultTest.fault("f=2;out f(1);", UNKNOWN, 8);
        FaultTest.fine("def f(){}out f;f=1;", 3);
        FaultTest.fault("f=2;f\n(1);", UNKNOWN, 4);
    }

    private static void variables() {
        TrialTest.takes("a=1;f(2);out a;def f(a){out a;a=3;b=4;}out b;", 8, "2 1 0");
        TrialTest.takes("b=5;f(1);g(2);out b;def f(a){b=a;}def g(a){out b;}", 8, "0 5");
        TrialTest.takes("f();def f(){if 1{a=1;}while a{out a;a=0;}}", 8, "1");
        // They are counted apart, too.
        FaultTest.fine(EIGHT_NAMES + "def x(i,j,k,l){m=n;o=p;}def y(){q=r;s=t;u=v;w=x;}", 12);
        FaultTest.fault(EIGHT_NAMES + "def x(i,j,k,l){m=n;o=p;q=1;}", NAMES, 39);
        FaultTest.fault("def x(i,j,k,l){m=n;o=p;}" + EIGHT_NAMES + "i=1;", NAMES, 40);
    }

    private static void firstFault() {
        FaultTest.fault("a=;$", UNEXPECTED, 2);
        FaultTest.fault("a=$;;", SIGN, 2);
        FaultTest.fault("a=2147483648;$", NUMBER, 2);
        FaultTest.fault("def f(a,a){$", DOUBLE, 8);
        FaultTest.fault("a=---------$;", NESTED, 10);
        FaultTest.fault(EIGHT_NAMES + "i$", NAMES, 16);
        FaultTest.fault(EIGHT_NAMES + "i", NAMES, 16);
        FaultTest.fault("def f(){}def f$", DOUBLE, 13);
        FaultTest.fault("a=1 b=$;", UNEXPECTED, 4);
        FaultTest.fault("f(1)$;", SIGN, 4);
    }

    private static void signFault() {
        for (String text : new String[] {"&", "|", "a&b", "a|b", "a=1&2;", "a=1|2;", "a=1& &2;", "a=1| |2;", "a=1&&&2;", "a=1|||2;"}) {
            Check.due("fault of " + text, SIGN, Texts.school(text).fault());
        }
        FaultTest.fault("a=1&", SIGN, 3);
        FaultTest.fault("a=1|", SIGN, 3);
        FaultTest.fault("a=1&=2;", SIGN, 3);
        FaultTest.fault("a=1&|2;", SIGN, 3);
        FaultTest.fine("a=1&&2;", 1);
        FaultTest.fine("a=1||2;", 1);
        for (char sign : "\"$'.:?@[\\]^_`~&|AZ".toCharArray()) {
            FaultTest.fault(String.valueOf(sign), SIGN, 0);
            FaultTest.fault("a=" + sign, SIGN, 2);
            FaultTest.fault("if 1{" + sign, SIGN, 5);
        }
    }

    private static void numberFault() {
        TrialTest.takes("out 2147483647;out -2147483647;", 3, "2147483647 -2147483647");
        FaultTest.fault("out 2147483648;", NUMBER, 4);
        FaultTest.fault("out -2147483648;", NUMBER, 5);
        FaultTest.fine("out 0000000000002147483647;", 1);
        FaultTest.fault("out 0000000000002147483648;", NUMBER, 4);
        FaultTest.fault("out 3000000000;", NUMBER, 4);
        FaultTest.fault("out 4294967295;", NUMBER, 4);
        FaultTest.fault("out 4294967296;", NUMBER, 4);
        FaultTest.fault("out 10000000000;", NUMBER, 4);
        FaultTest.fault("out 9223372036854775807;", NUMBER, 4);
        FaultTest.fault("out 9223372036854775808;", NUMBER, 4);
        FaultTest.fault("out 18446744073709551616;", NUMBER, 4);
        FaultTest.fault("out 18446744073709551617;", NUMBER, 4);
        FaultTest.fault("out 340282366920938463463374607431768211457;", NUMBER, 4);
        FaultTest.fault("out " + "9".repeat(296), NUMBER, 4);
        FaultTest.fine("out " + "0".repeat(295) + ";", 1);
    }

    /** Behind the beginning of a text, these tokens can stand and no others. */
    private static void canStand(String begun, String fine) {
        for (String token : TOKENS) {
            ProgramSchool school = Texts.school(begun + token);
            boolean isFine = (" " + fine + " ").contains(" " + token + " ");
            Check.due("faultPlace of " + begun + token + " is at its last token", !isFine, school.faultPlace() == begun.length());
            if (!isFine) {
                Check.due("fault of " + begun + token, UNEXPECTED, school.fault());
            }
        }
    }

    private static void unexpectedToken() {
        // A statement.
        canStand("", "x # out if while def");
        canStand("a=1; ", "x # out if while def");
        canStand("def f(){} ", "x # out if while def");
        canStand("if 1{ ", "x # out if while }");
        canStand("while 1{a=1; ", "x # out if while }");
        canStand("def f(){ ", "x # out if while return }");
        canStand("def f(){if 1{ ", "x # out if while return }");
        canStand("if 1{}else{ ", "x # out if while }");
        canStand("a ", "= (");
        canStand("a=1 ", BINARY + " ;");
        canStand("f( ", OPERANDS + " )");
        canStand("f() ", ";");
        canStand("out 1 ", BINARY + " ;");
        canStand("if 1 ", BINARY + " {");
        canStand("if 1{} ", "x # out if while def else");
        canStand("if 1{}else ", "{");
        canStand("if 1{}else{} ", "x # out if while def");
        canStand("while 1 ", BINARY + " {");
        canStand("while 1{} ", "x # out if while def");
        canStand("def f(){return 1 ", BINARY + " ;");
        canStand("#1 ", "=");
        canStand("#1=2 ", BINARY + " ;");
        unexpectedTokenInDef();
        unexpectedTokenInExpression();
    }

    private static void unexpectedTokenInDef() {
        canStand("def ", "x");
        canStand("def f ", "(");
        canStand("def f( ", "x )");
        canStand("def f(a ", ", )");
        canStand("def f(a, ", "x");
        canStand("def f(a,b ", ", )");
        canStand("def f() ", "{");
        canStand("def f(a) ", "{");
        canStand("def f(){if 1{} ", "x # out if while return } else");
    }

    private static void unexpectedTokenInExpression() {
        for (String begun : new String[] {"a= ", "#", "#1= ", "out ", "if ", "while ", "out ( ", "out - ", "out ! ", "out # ", "f(1, ", "def f(){return "}) {
            canStand(begun, OPERANDS);
        }
        for (String mark : BINARY.split(" ")) {
            canStand("out 1 " + mark + " ", OPERANDS);
        }
        for (String operand : new String[] {"1", "in", "f()", "(1)", "-1", "!1", "#1", "1+1"}) {
            canStand("out " + operand + " ", BINARY + " ;");
        }
        canStand("out a ", BINARY + " ; (");
        canStand("out -a ", BINARY + " ; (");
        canStand("out (1 ", BINARY + " )");
        canStand("out (a ", BINARY + " ) (");
        canStand("out f( ", OPERANDS + " )");
        canStand("out f(1 ", BINARY + " , )");
        canStand("out f(1,2 ", BINARY + " , )");
        canStand("out f((1 ", BINARY + " )");
    }

    private static void unexpectedEnd() {
        FaultTest.fault("a", UNEXPECTED, 1);
        FaultTest.fault("a=1", UNEXPECTED, 3);
        FaultTest.fine("a=1;", 1);
        FaultTest.fault("a=1 ", UNEXPECTED, 4);
        FaultTest.fault("a=1\n\n", UNEXPECTED, 5);
        FaultTest.fine("a=1; \n", 1);
        FaultTest.fault("if 1{}else", UNEXPECTED, 10);
        FaultTest.fine("if 1{}", 1);
        FaultTest.fault("def f(){}def", UNEXPECTED, 12);
        FaultTest.fault(Schools.padded("a=1", 300), UNEXPECTED, 300);
        FaultTest.fault("a=1;".repeat(74) + "b=12", UNEXPECTED, 300);
        FaultTest.fault("a=1;".repeat(74) + "b=1+", UNEXPECTED, 300);
        FaultTest.fault("a=1;".repeat(74) + "b=1", UNEXPECTED, 299);
        FaultTest.fine("a=1;".repeat(74) + "b=1;", 75);
    }

    /** A text of which some levels are open, amid which another text stands. */
    private static String inside(int levels, String text) {
        return "out " + "(".repeat(levels) + text + ")".repeat(levels) + ";";
    }

    private static String inBlocks(int levels, String text) {
        return "if 1{".repeat(levels) + text + "}".repeat(levels);
    }

    private static void ninthLevel() {
        for (String open : new String[] {"(", "-", "!", "#"}) {
            String close = open.equals("(") ? ")" : "";
            FaultTest.fine("out " + open.repeat(MOST_LEVELS) + "1" + close.repeat(MOST_LEVELS) + ";", 1);
            FaultTest.fault("out " + open.repeat(9) + "1" + close.repeat(9) + ";", NESTED, 12);
        }
        FaultTest.fine("if 1{".repeat(8) + "}".repeat(8), 8);
        FaultTest.fault("if 1{".repeat(9) + "}".repeat(9), NESTED, 44);
        FaultTest.fine("f(".repeat(8) + "1" + ")".repeat(8) + ";def f(a){}", 2);
        FaultTest.fault("f(".repeat(9) + "1" + ")".repeat(9) + ";def f(a){}", NESTED, 17);
        // All kinds together.
        FaultTest.fine("if 1{while 1{#(-f(!#1))=1;}}def f(a){}", 4);
        FaultTest.fine("if 1{while 1{#(-f(!(1)))=1;}}def f(a){}", 4);
        FaultTest.fault("if 1{while 1{#(-f(!(-1)))=1;}}def f(a){}", NESTED, 20);
    }

    private static void levelsOfParentheses() {
        FaultTest.fine(inside(7, "(1)"), 1);
        FaultTest.fault(inside(8, "(1)"), NESTED, 12);
        FaultTest.fine(inside(7, "(1)+(2)-(3)*(4)"), 1);
        FaultTest.fine(inside(7, "f()+f()") + "def f(){}", 2);
        FaultTest.fault(inside(8, "f()") + "def f(){}", NESTED, 13);
        FaultTest.fine(inside(7, "f(1)+f(1)") + "def f(a){}", 2);
        FaultTest.fault(inside(7, "f(1)+f((1))") + "def f(a){}", NESTED, 18);
        FaultTest.fine(inside(6, "f((1),(2),f(3,4,5))") + "def f(a,b,c){}", 2);
        FaultTest.fault(inside(7, "f(1,2,f(3,4,5))") + "def f(a,b,c){}", NESTED, 18);
        FaultTest.fine(inBlocks(7, "f();f();") + "def f(){}", 10);
        FaultTest.fault(inBlocks(8, "f();") + "def f(){}", NESTED, 41);
        // Of parameters: closed when the block begins.
        FaultTest.fine("def f(a){" + inBlocks(7, "") + "}", 8);
        FaultTest.fine("def f(){" + inBlocks(7, "") + "}", 8);
        FaultTest.fault("def f(a,b){" + inBlocks(8, "") + "}", NESTED, 50);
        // Behind its ) a level is open no more.
        FaultTest.fine("out (1);" + inside(8, "1"), 2);
        FaultTest.fine("f(1);def f(a){}" + inside(8, "1"), 3);
    }

    private static void levelsOfBlocks() {
        FaultTest.fine(inBlocks(8, "a=1;"), 9);
        FaultTest.fault(inBlocks(8, "if 1{}"), NESTED, 44);
        FaultTest.fault(inBlocks(8, "while 1{}"), NESTED, 47);
        FaultTest.fine(inBlocks(7, "if 1{}else{}if 1{}while 1{}"), 10);
        FaultTest.fault(inBlocks(7, "if 1{}else{if 1{}}"), NESTED, 50);
        FaultTest.fine(inBlocks(7, "if (1){}"), 8);
        FaultTest.fault(inBlocks(8, "out (1);"), NESTED, 44);
        FaultTest.fault(inBlocks(8, "out -1;"), NESTED, 44);
        FaultTest.fine(inBlocks(7, "out (1);out -1;out #1;"), 10);
        FaultTest.fine("def f(){" + inBlocks(7, "a=1;") + "}", 9);
        FaultTest.fault("def f(){" + inBlocks(7, "if 1{}") + "}", NESTED, 47);
        // Behind its } a level is open no more.
        FaultTest.fine("if 1{}else{}while 1{}def f(){}" + inBlocks(8, ""), 11);
    }

    private static void levelsOfMarks() {
        for (String mark : new String[] {"-", "!", "#"}) {
            FaultTest.fine(inside(7, mark + "1"), 1);
            FaultTest.fault(inside(8, mark + "1"), NESTED, 12);
            // To the end of the expression of the level 7 behind it, and no farther.
            FaultTest.fine(inside(7, mark + "1+" + mark + "1*" + mark + "1"), 1);
            FaultTest.fine(inside(7, mark + "1-1-1"), 1);
            FaultTest.fine(inside(7, mark + "1+(1)"), 1);
            FaultTest.fine(inside(6, mark + "(1)+" + mark + mark + "1"), 1);
            FaultTest.fault(inside(7, mark + "(1)"), NESTED, 12);
            FaultTest.fault(inside(7, mark + "f()") + "def f(){}", NESTED, 13);
            FaultTest.fault(inside(7, "1+" + mark + mark + "1"), NESTED, 14);
        }
        // - of two operands opens none.
        FaultTest.fine(inside(8, "1-1-1"), 1);
        FaultTest.fault(inside(8, "1--1"), NESTED, 14);
        FaultTest.fine(inBlocks(7, "#1=2;#3=4;"), 9);
        FaultTest.fault(inBlocks(8, "#1=2;"), NESTED, 40);
        FaultTest.fine(inBlocks(6, "##1=2;#-1=2;#(1)=2;"), 9);
        FaultTest.fault(inBlocks(7, "##1=2;"), NESTED, 36);
        FaultTest.fine(inBlocks(7, "#1=(2);#1=-2;#1=#2;"), 10);
        FaultTest.fine("#1=" + "(".repeat(8) + "1" + ")".repeat(8) + ";", 1);
        FaultTest.fault("#1=" + "(".repeat(9) + "1" + ")".repeat(9) + ";", NESTED, 11);
        FaultTest.fine("#" + "(".repeat(7) + "1" + ")".repeat(7) + "=1;", 1);
        FaultTest.fault("#" + "(".repeat(8) + "1" + ")".repeat(8) + "=1;", NESTED, 8);
    }

    private static void ninthName() {
        FaultTest.fine(EIGHT_NAMES, 4);
        FaultTest.fine(EIGHT_NAMES + "a=h;out a+b+c+d+e+f+g+h;", 6);
        FaultTest.fault(EIGHT_NAMES + "i=a;", NAMES, 16);
        FaultTest.fault(EIGHT_NAMES + "a=i;", NAMES, 18);
        FaultTest.fault(EIGHT_NAMES + "if i{}", NAMES, 19);
        FaultTest.fault(EIGHT_NAMES + "if a{out i;}", NAMES, 25);
        FaultTest.fault(EIGHT_NAMES + "out aa;", NAMES, 20);
        FaultTest.fine("def x(){" + EIGHT_NAMES + "}", 5);
        FaultTest.fault("def x(){" + EIGHT_NAMES + "i=a;}", NAMES, 24);
        FaultTest.fine("def x(a,b,c){" + EIGHT_NAMES + "}", 5);
        FaultTest.fine("def x(i,j){a=b;c=d;e=f;}", 4);
        FaultTest.fault("def x(i,j){a=b;c=d;e=f;g=1;}", NAMES, 23);
        FaultTest.fault("def x(i){" + EIGHT_NAMES + "}", NAMES, 23);
        FaultTest.fine("def x(a,b,c,d,e,f,g,h){}", 1);
        FaultTest.fault("def x(a,b,c,d,e,f,g,h,i){}", NAMES, 22);
        // Each def has eight of its own, and so has the program outside.
        FaultTest.fine("def x(a,b,c,d,e,f,g,h){}def y(i,j,k,l,m,n,o,p){}q=r;s=t;u=v;w=x;", 6);
        FaultTest.fault("a=b;c=d;def x(i){j=k;}e=f;g=h;i=1;", NAMES, 30);
    }

    private static void whatIsAVariable() {
        // A parameter, whatever stands behind it.
        FaultTest.fault("def x(a,b,c,d,e,f,g,h,i(", NAMES, 22);
        FaultTest.fault("def x(a,b,c,d,e,f,g,h,i", NAMES, 22);
        FaultTest.fault("def x(a,b,c,d,e,f,g,h,i=", NAMES, 22);
        FaultTest.fault("def x(a,b,c,d,e,f,g,h(", UNEXPECTED, 21);
        // One behind def is none, whatever stands behind it.
        FaultTest.fine(EIGHT_NAMES + "def i(){}", 5);
        FaultTest.fault(EIGHT_NAMES + "def i=", UNEXPECTED, 21);
        FaultTest.fault(EIGHT_NAMES + "def i", UNEXPECTED, 21);
        // One with "(" behind it is none, any other one is.
        FaultTest.fine(EIGHT_NAMES + "i();def i(){}", 6);
        FaultTest.fine(EIGHT_NAMES + "out i ();def i(){}", 6);
        FaultTest.fault(EIGHT_NAMES + "i(", UNEXPECTED, 18);
        FaultTest.fault(EIGHT_NAMES + "i)", NAMES, 16);
        FaultTest.fault(EIGHT_NAMES + "i", NAMES, 16);
        FaultTest.fault(EIGHT_NAMES + "out i", NAMES, 20);
        FaultTest.fault(EIGHT_NAMES + "out i{", NAMES, 20);
        FaultTest.fault("def i(a,b,c,d,e,f,g,h){i=1;}", NAMES, 23);
        FaultTest.fine("def i(a,b,c,d,e,f,g,h){i(1,2,3,4,5,6,7,8);}", 2);
    }

    private static void doubleDef() {
        FaultTest.fault("def f(){}def f(){}", DOUBLE, 13);
        FaultTest.fault("def f(a){}def g(){}def f(){}", DOUBLE, 23);
        FaultTest.fault("def f(){}def f", DOUBLE, 13);
        FaultTest.fine("def f(){}def ff(){}def g(){}", 3);
        FaultTest.fine("f=1;def f(f){f=1;}f=2;", 4);
        FaultTest.fine("f();def f(){f();}f();", 4);
        // A def in a block is refused for that, before its name is read.
        FaultTest.fault("def f(){def f(){}}", UNEXPECTED, 8);
    }

    private static void doubleParameter() {
        FaultTest.fault("def f(a,a){}", DOUBLE, 8);
        FaultTest.fault("def f(a,b,a){}", DOUBLE, 10);
        FaultTest.fault("def f(a,b,b(", DOUBLE, 10);
        FaultTest.fault("def f(a,b,c,d,e,f,g,h,h){}", DOUBLE, 22);
        FaultTest.fine("def f(a,aa){}", 1);
        FaultTest.fine("def f(a){}def g(a){}", 2);
        FaultTest.fine("a=1;def f(a){a=a;}", 3);
        FaultTest.fine("def f(f){}", 1);
    }

    private static void unknown() {
        FaultTest.fault("f();", UNKNOWN, 0);
        FaultTest.fault("out 1+f();", UNKNOWN, 6);
        FaultTest.fine("f();def f(){}", 2);
        FaultTest.fault("ff();def f(){}", UNKNOWN, 0);
        FaultTest.fault("f();def ff(){}", UNKNOWN, 0);
        FaultTest.fault("def f(a){a();}", UNKNOWN, 9);
        FaultTest.fault("def f(){g();}def h(){}", UNKNOWN, 8);
        FaultTest.fine("def f(){g();}def g(){f();}", 4);
        // Only if there is none of the faults above.
        FaultTest.fault("f();$", SIGN, 4);
        FaultTest.fault("f();a=2147483648;", NUMBER, 6);
        FaultTest.fault("f();a", UNEXPECTED, 5);
        FaultTest.fault("f();a=---------1;", NESTED, 14);
        FaultTest.fault("f();" + EIGHT_NAMES + "i=1;", NAMES, 20);
        FaultTest.fault("f();def g(a,a){}", DOUBLE, 12);
    }

    private static void count() {
        FaultTest.fine("f();def f(){}", 2);
        FaultTest.fault("f(1);def f(){}", COUNT, 0);
        FaultTest.fault("f();def f(a){}", COUNT, 0);
        FaultTest.fine("f(1);def f(a){}", 2);
        FaultTest.fault("f(1,2);def f(a){}", COUNT, 0);
        FaultTest.fault("out 1+f(1);def f(a,b){}", COUNT, 6);
        FaultTest.fine("def f(a,b,c,d,e,f,g,h){}f(1,2,3,4,5,6,7,8);", 2);
        FaultTest.fault("def f(a,b,c,d,e,f,g,h){}f(1,2,3,4,5,6,7);", COUNT, 24);
        FaultTest.fault("def f(a,b,c,d,e,f,g,h){}f(1,2,3,4,5,6,7,8,9);", COUNT, 24);
        // A variable of the block is no parameter.
        FaultTest.fault("f(1,2);def f(a){b=1;}", COUNT, 0);
        FaultTest.fault("def f(a){f();}", COUNT, 9);
        FaultTest.fault("f(1);def f(){}$", SIGN, 14);
        FaultTest.fault("f(1);def f(){}a", UNEXPECTED, 15);
    }

    private static void lowestPlace() {
        FaultTest.fault("g();f(1);def f(){}", UNKNOWN, 0);
        FaultTest.fault("f(1);g();def f(){}", COUNT, 0);
        FaultTest.fault("def f(){}f();f(1);g();", COUNT, 13);
        FaultTest.fault("def f(){}f();g();f(1);", UNKNOWN, 13);
        FaultTest.fault("f(g());def f(){}", COUNT, 0);
        FaultTest.fault("g(f(1));def f(){}", UNKNOWN, 0);
        FaultTest.fault("f(g(),f(1));def f(a,b){}", UNKNOWN, 2);
        FaultTest.fault("f(f(1),g());def f(a,b){}", COUNT, 2);
        FaultTest.fault("def f(a){g();}h();f();", UNKNOWN, 9);
        FaultTest.fault("f(f(f(1,2)));def f(a){}", COUNT, 4);
    }
}
