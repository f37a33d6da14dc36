/** Promises 7 to 9: fault, faultPlace, draftParts. */
public final class FaultTest {
    private static final int NO_FAULT = ProgramSchool.NO_FAULT, SIGN = ProgramSchool.SIGN, NUMBER = ProgramSchool.NUMBER,
            UNEXPECTED = ProgramSchool.UNEXPECTED, NESTED = ProgramSchool.NESTED, NAMES = ProgramSchool.NAMES,
            DOUBLE = ProgramSchool.DOUBLE, UNKNOWN = ProgramSchool.UNKNOWN, COUNT = ProgramSchool.COUNT;
    // An object is good for 512 calls; each text takes some 40.
    private static final int TEXTS_IN_ONE = 10;

    private static ProgramSchool used = new ProgramSchool();
    private static int texts;

    public static void main(String[] args) {
        faultless();
        signs();
        numbers();
        unexpectedInStatements();
        unexpectedInExpressions();
        unexpectedInDefs();
        nested();
        names();
        doubles();
        calls();
        firstOfSeveral();
        changes();
        readAnew();
        countedAnew();
        fullDrafts();
        parts();
        Check.end("FaultTest");
    }

    /** A text with the fault and the place that are due. */
    static void fault(String text, int fault, int place) {
        ProgramSchool school = Texts.school(text);
        Check.due("length of " + text, text.length(), school.length());
        Check.due("fault of " + text, fault, school.fault());
        Check.due("faultPlace of " + text, place, school.faultPlace());
        if (fault == NO_FAULT) {
            Check.due("draftParts of " + text + " throws nothing", true, school.draftParts() >= 0);
        } else {
            Check.throwsState("draftParts of " + text, school::draftParts);
            Check.throwsState("trial of " + text, () -> school.trial(1, 0, 0));
            Check.throwsState("trialByTree of " + text, () -> school.trialByTree(1, 0, 0));
        }
        faultBehindOthers(text, fault, place);
    }

    /** In an object that has had other texts, of which nothing may be left. */
    private static void faultBehindOthers(String text, int fault, int place) {
        texts++;
        if (texts % TEXTS_IN_ONE == 0) {
            used = new ProgramSchool();
        }
        Texts.set(used, text);
        Check.due("fault behind others of " + text, fault, used.fault());
        Check.due("faultPlace behind others of " + text, place, used.faultPlace());
    }

    /** A text without faults. */
    static void fine(String text, int parts) {
        fault(text, NO_FAULT, ProgramSchool.NONE);
        Check.due("draftParts of " + text, parts, Texts.school(text).draftParts());
    }

    private static void faultless() {
        fine("", 0);
        fine(" \n  ", 0);
        fine("a=1;", 1);
        fine("a=\n1\n;\n", 1);
        fine("#1=2;", 1);
        fine("#-1=2;", 1);
        fine("##!-(1)=2;", 1);
        fine("#in=in;", 1);
        fine("out in;", 1);
        fine("out(1);", 1);
        fine("if 1{}", 1);
        fine("if(1){}else{}", 1);
        fine("while 0{}", 1);
        fine("def f(){}", 1);
        fine("def f(a){return a;}", 2);
        fine("def f(a,b,c){if a{while b{return c;}}else{return 1;}}", 5);
        fine("f();def f(){}", 2);
        fine("def f(){f();}f();", 3);
        fine("def f(){g();}def g(){f();}", 4);
        fine("f=1;def f(f){f=f(f);}f=f(f);", 4);
        fine("out 1||2&&3==4!=5<6<=7>8>=9+10-11*12/13%14;", 1);
        fine("out!1;out-1;out#1;", 3);
        fine("out 1- -1;out 1--1;out!!1;", 3);
        fine("out 2147483647;out 00000000000000000002147483647;", 2);
        fine("inn=1;ifs=2;outer=3;iff=elsee+whiles+defs+returns;", 4);
        fine("a=!b==c;", 1);
        fine("a=b=="+"-c;a=b<-c;a=b!=!c;", 3);
    }

    private static void signs() {
        fault("$", SIGN, 0);
        fault("a=1;b=2|3;", SIGN, 7);
        fault("a=1&2;", SIGN, 3);
        fault("a=1&&&2;", SIGN, 5);
        fault("a=1|||2;", SIGN, 5);
        fault("a=1& &2;", SIGN, 3);
        fault("a=A;", SIGN, 2);
        fault("aB=1;", SIGN, 1);
        fault("a_b=1;", SIGN, 1);
        fault("out 1.5;", SIGN, 5);
        fault("out 1;~", SIGN, 6);
        fault("out '1';", SIGN, 4);
        fault("if 1{?}", SIGN, 5);
        fault("def @", SIGN, 4);
        fault("def f(@", SIGN, 6);
        fault("def f(a@", SIGN, 7);
        fault("f(@", SIGN, 2);
        fault("if 1{}@", SIGN, 6);
        fault("while 1@", SIGN, 7);
        for (char sign = 32; sign < 127; sign++) {
            boolean isBad = "@[\\]^_`~\"$'.:?|&".indexOf(sign) >= 0 || sign >= 'A' && sign <= 'Z';
            ProgramSchool school = Texts.school("a=1" + sign);
            Check.due("SIGN of a=1" + sign, isBad, school.fault() == SIGN);
        }
    }

    private static void numbers() {
        fault("out 2147483648;", NUMBER, 4);
        fault("out -2147483648;", NUMBER, 5);
        fault("out 4294967296;", NUMBER, 4);
        fault("out 4294967297;", NUMBER, 4);
        fault("out 18446744073709551617;", NUMBER, 4);
        fault("out 1+002147483648;", NUMBER, 6);
        fault("out " + "9".repeat(290) + ";", NUMBER, 4);
        fault("out " + "0".repeat(290) + "7;", NO_FAULT, -1);
        fault("out 2147483647 ", UNEXPECTED, 15);
        fault("out 1 9999999999;", NUMBER, 6);
    }

    private static void unexpectedInStatements() {
        fault("a", UNEXPECTED, 1);
        fault("a ", UNEXPECTED, 2);
        fault("a=", UNEXPECTED, 2);
        fault("a=1", UNEXPECTED, 3);
        fault("a=1 \n", UNEXPECTED, 5);
        fault("a 1;", UNEXPECTED, 2);
        fault("a==1;", UNEXPECTED, 1);
        fault("a+1;", UNEXPECTED, 1);
        fault("1=a;", UNEXPECTED, 0);
        fault("in=1;", UNEXPECTED, 0);
        fault(";", UNEXPECTED, 0);
        fault("a=1;;", UNEXPECTED, 4);
        fault("{}", UNEXPECTED, 0);
        fault("}", UNEXPECTED, 0);
        fault("a=1;}", UNEXPECTED, 4);
        fault("else{}", UNEXPECTED, 0);
        fault("if 1{}else if 2{}", UNEXPECTED, 11);
        fault("if 1{}else{}else{}", UNEXPECTED, 12);
        fault("while 1{}else{}", UNEXPECTED, 9);
        fault("if 1 out 1;", UNEXPECTED, 5);
        fault("if{}", UNEXPECTED, 2);
        fault("if 1", UNEXPECTED, 4);
        fault("if 1{", UNEXPECTED, 5);
        fault("if 1{a=1;", UNEXPECTED, 9);
        fault("if 1{a=1}", UNEXPECTED, 8);
        fault("if 1{}else", UNEXPECTED, 10);
        fault("while 1", UNEXPECTED, 7);
        fault("out;", UNEXPECTED, 3);
        fault("out", UNEXPECTED, 3);
        fault("out 1 2;", UNEXPECTED, 6);
        fault("out 1,2;", UNEXPECTED, 5);
        fault("#=1;", UNEXPECTED, 1);
        fault("#1+2=3;", UNEXPECTED, 2);
        fault("#1==3;", UNEXPECTED, 2);
        fault("#1;", UNEXPECTED, 2);
        fault("#(1=2;", UNEXPECTED, 3);
        fault("-1=2;", UNEXPECTED, 0);
        fault("(a)=2;", UNEXPECTED, 0);
        fault("return 1;", UNEXPECTED, 0);
        fault("if 1{return 1;}", UNEXPECTED, 5);
        fault("def f(){}return 1;", UNEXPECTED, 9);
        fault("if 1{def f(){}}", UNEXPECTED, 5);
        fault("while 1{def f(){}}", UNEXPECTED, 8);
        fault("def f(){def g(){}}", UNEXPECTED, 8);
        fault("def f(){if 1{}def g(){}}", UNEXPECTED, 14);
    }

    private static void unexpectedInExpressions() {
        fault("out 1+;", UNEXPECTED, 6);
        fault("out +1;", UNEXPECTED, 4);
        fault("out 1!2;", UNEXPECTED, 5);
        fault("out 1#2;", UNEXPECTED, 5);
        fault("out 1=2;", UNEXPECTED, 5);
        fault("out 1===2;", UNEXPECTED, 7);
        fault("out 1<==2;", UNEXPECTED, 7);
        fault("out 1< =2;", UNEXPECTED, 7);
        fault("out 1> =2;", UNEXPECTED, 7);
        fault("out 1! =2;", UNEXPECTED, 5);
        fault("out 1= =2;", UNEXPECTED, 5);
        fault("out 1<>2;", UNEXPECTED, 6);
        fault("out (1;", UNEXPECTED, 6);
        fault("out 1);", UNEXPECTED, 5);
        fault("out ();", UNEXPECTED, 5);
        fault("out (1,2);", UNEXPECTED, 6);
        fault("out 1a;", UNEXPECTED, 5);
        fault("out a1;", UNEXPECTED, 5);
        fault("out in(1);", UNEXPECTED, 6);
        fault("out out;", UNEXPECTED, 4);
        fault("out if;", UNEXPECTED, 4);
        fault("out f(;", UNEXPECTED, 6);
        fault("out f(1;", UNEXPECTED, 7);
        fault("out f(1,);", UNEXPECTED, 8);
        fault("out f(,1);", UNEXPECTED, 6);
        fault("out f(1 2);", UNEXPECTED, 8);
        fault("out f()g();", UNEXPECTED, 7);
        fault("f()", UNEXPECTED, 3);
        fault("f()+1;", UNEXPECTED, 3);
        fault("f()=1;", UNEXPECTED, 3);
        fault("f(1)(2);", UNEXPECTED, 4);
        fault("out (a)(b);", UNEXPECTED, 7);
        fault("out 1-;", UNEXPECTED, 6);
        fault("out a<;", UNEXPECTED, 6);
        fault("out -", UNEXPECTED, 5);
    }

    private static void unexpectedInDefs() {
        fault("def", UNEXPECTED, 3);
        fault("def 1", UNEXPECTED, 4);
        fault("def if(){}", UNEXPECTED, 4);
        fault("def (){}", UNEXPECTED, 4);
        fault("def f", UNEXPECTED, 5);
        fault("def f{}", UNEXPECTED, 5);
        fault("def f a(){}", UNEXPECTED, 6);
        fault("def f(", UNEXPECTED, 6);
        fault("def f(){", UNEXPECTED, 8);
        fault("def f()", UNEXPECTED, 7);
        fault("def f();", UNEXPECTED, 7);
        fault("def f(1){}", UNEXPECTED, 6);
        fault("def f(,){}", UNEXPECTED, 6);
        fault("def f(a,){}", UNEXPECTED, 8);
        fault("def f(a b){}", UNEXPECTED, 8);
        fault("def f(a(){}", UNEXPECTED, 7);
        fault("def f(a=1){}", UNEXPECTED, 7);
        fault("def f(in){}", UNEXPECTED, 6);
        fault("def f((a)){}", UNEXPECTED, 6);
        fault("def f(a;b){}", UNEXPECTED, 7);
        fault("def f(){return;}", UNEXPECTED, 14);
        fault("def f(){return 1}", UNEXPECTED, 16);
        fault("def f(){}else{}", UNEXPECTED, 9);
        fault("a=def;", UNEXPECTED, 2);
    }

    private static void nested() {
        fault("out " + "(".repeat(8) + "1" + ")".repeat(8) + ";", NO_FAULT, -1);
        fault("out " + "(".repeat(9) + "1" + ")".repeat(9) + ";", NESTED, 12);
        fault("out " + "-".repeat(8) + "1;", NO_FAULT, -1);
        fault("out " + "-".repeat(9) + "1;", NESTED, 12);
        fault("out " + "!".repeat(9) + "1;", NESTED, 12);
        fault("out " + "#".repeat(9) + "1;", NESTED, 12);
        fault("out " + "-(".repeat(4) + "1" + ")".repeat(4) + ";", NO_FAULT, -1);
        fault("out " + "-(".repeat(4) + "-1" + ")".repeat(4) + ";", NESTED, 12);
        fault("out " + "-(".repeat(4) + "1-2" + ")".repeat(4) + ";", NO_FAULT, -1);
        fault("out -1+" + "(".repeat(8) + "1" + ")".repeat(8) + ";", NO_FAULT, -1);
        fault("out -(1)+" + "(".repeat(8) + "-1" + ")".repeat(8) + ";", NESTED, 17);
        fault("out (1)+" + "(".repeat(7) + "(1)+(1)+-1" + ")".repeat(7) + ";", NO_FAULT, -1);
        fault("#" + "(".repeat(7) + "1" + ")".repeat(7) + "=2;", NO_FAULT, -1);
        fault("#" + "(".repeat(8) + "1" + ")".repeat(8) + "=2;", NESTED, 8);
        fault("#1=" + "(".repeat(8) + "1" + ")".repeat(8) + ";", NO_FAULT, -1);
        fault("#1=" + "(".repeat(9) + "1" + ")".repeat(9) + ";", NESTED, 11);
        fault("if 1{".repeat(8) + "}".repeat(8), NO_FAULT, -1);
        fault("if 1{".repeat(8) + "a=1;" + "}".repeat(8), NO_FAULT, -1);
        fault("if 1{".repeat(8) + "out (1);" + "}".repeat(8), NESTED, 44);
        fault("if 1{".repeat(8) + "#1=1;" + "}".repeat(8), NESTED, 40);
        fault("if 1{".repeat(8) + "if 1{}" + "}".repeat(8), NESTED, 44);
        fault("while 1{".repeat(9), NESTED, 71);
        fault("if 1{".repeat(8) + "f();" + "}".repeat(8) + "def f(){}", NESTED, 41);
        fault("if 1{".repeat(7) + "f();" + "}".repeat(7) + "def f(){}", NO_FAULT, -1);
        fault("if 1{".repeat(7) + "}else{".repeat(1) + "if 1{}}" + "}".repeat(6), NO_FAULT, -1);
        fault("if 1{".repeat(7) + "}else{if 1{if 1{}}}" + "}".repeat(6), NESTED, 50);
        fault("f(".repeat(8) + ")".repeat(8) + ";def f(){}", COUNT, 0);
        fault("f(".repeat(9) + ")".repeat(9) + ";", NESTED, 17);
        fault("def f(){" + "if 1{".repeat(7) + "}".repeat(8), NO_FAULT, -1);
        fault("def f(){" + "if 1{".repeat(8) + "}".repeat(9), NESTED, 47);
        fault("def f(a,b){" + "if 1{".repeat(7) + "}".repeat(8), NO_FAULT, -1);
        fault("out ((((((((-1))))))));", NESTED, 12);
        // A mark that cannot stand there opens nothing.
        fault("out " + "(".repeat(8) + "1(", UNEXPECTED, 13);
        fault("if 1{".repeat(8) + "{", UNEXPECTED, 40);
        fault("if 1{".repeat(8) + "a(", NESTED, 41);
    }

    private static void names() {
        String eight = "a=1;b=1;c=1;d=1;e=1;f=1;g=1;h=1;";
        fault(eight, NO_FAULT, -1);
        fault(eight + "a=b+h;", NO_FAULT, -1);
        fault(eight + "i=1;", NAMES, 32);
        fault(eight + "out i;", NAMES, 36);
        fault(eight + "i", NAMES, 32);
        fault(eight + "i$", NAMES, 32);
        fault(eight + "i+1;", NAMES, 32);
        fault(eight + "i();", UNKNOWN, 32);
        fault(eight + "out i();def i(){}", NO_FAULT, -1);
        fault(eight + "out 1 i;", UNEXPECTED, 38);
        fault(eight + "aa=1;", NAMES, 32);
        fault(eight + "def i(){}", NO_FAULT, -1);
        fault(eight + "def i(j){k=1;}", NO_FAULT, -1);
        fault(eight + "def x(i){}j=1;", NAMES, 42);
        fault("a=b;c=d;def x(a,c){e=f;g=h;}e=f;g=h;out i;", NAMES, 40);
        fault("def x(a,b,c,d,e,f,g,h){}", NO_FAULT, -1);
        fault("def x(a,b,c,d,e,f,g,h){out a+h;}", NO_FAULT, -1);
        fault("def x(a,b,c,d,e,f,g,h,i){}", NAMES, 22);
        fault("def x(a,b,c,d,e,f,g,h,i(", NAMES, 22);
        fault("def x(a,b,c,d,e,f,g,h,i", NAMES, 22);
        fault("def x(a,b,c,d,e,f,g,h){i=1;}", NAMES, 23);
        fault("def x(a,b){c=d+e+f+g+h;}", NO_FAULT, -1);
        fault("def x(a,b){c=d+e+f+g+h+i;}", NAMES, 23);
        fault("def x(a){b=c+d+e+f+g+h;}def y(b){i=j+k+l+m+n+o;}", NO_FAULT, -1);
        fault("def x(a,b,c,d,e,f,g,h){i(1);}", UNKNOWN, 23);
        fault("out a(b,c,d,e,f,g,h,i);out j;", NAMES, 27);
        fault("out a(b,c,d,e,f,g,h,i,j);", NAMES, 22);
    }

    private static void doubles() {
        fault("def f(a,a){}", DOUBLE, 8);
        fault("def f(a,b,a", DOUBLE, 10);
        fault("def f(a,b,c,d,e,f,g,h,a){}", DOUBLE, 22);
        fault("def f(){}def f(){}", DOUBLE, 13);
        fault("def f(){}def f", DOUBLE, 13);
        fault("def f(a){}def g(a){}", NO_FAULT, -1);
        fault("def f(f){}", NO_FAULT, -1);
        fault("def ff(){}def f(){}def fff(){}def ff(a){}", DOUBLE, 34);
        fault("def f(){def f(){}}", UNEXPECTED, 8);
    }

    private static void calls() {
        fault("f();", UNKNOWN, 0);
        fault("a=1+f(2);", UNKNOWN, 4);
        fault("def f(){}f(1);", COUNT, 9);
        fault("def f(a){}f();", COUNT, 10);
        fault("def f(a,b){}f(1);f(1,2,3);", COUNT, 12);
        fault("f(1,g());def f(a){if 1{return a;}}", COUNT, 0);
        fault("f(g());def f(a){}", UNKNOWN, 2);
        fault("f(f(1,2));def f(a){}", COUNT, 2);
        fault("f(g());def g(a){}", UNKNOWN, 0);
        fault("g();f();def f(a){}", UNKNOWN, 0);
        fault("f();g();def f(a){}", COUNT, 0);
        fault("def f(a){a(1);}", UNKNOWN, 9);
        fault("def f(){g();}", UNKNOWN, 8);
        fault("def f(a,b,c,d,e,f,g,h){}f(1,2,3,4,5,6,7,8);", NO_FAULT, -1);
        fault("def f(a,b,c,d,e,f,g,h){}f(1,2,3,4,5,6,7,8,9);", COUNT, 24);
        fault("ff();def f(){}", UNKNOWN, 0);
        fault("f();def ff(){}", UNKNOWN, 0);
    }

    private static void firstOfSeveral() {
        fault("a=;$", UNEXPECTED, 2);
        fault("$a=;", SIGN, 0);
        fault("f();$", SIGN, 4);
        fault("f();out 9999999999;", NUMBER, 8);
        fault("f();a", UNEXPECTED, 5);
        fault("f();def g(a,a){}", DOUBLE, 12);
        fault("def f(a){}f();def f(){}", DOUBLE, 18);
        fault("f();out ---------1;", NESTED, 16);
        fault("out 9999999999 $;", NUMBER, 4);
        fault("a=1&;2147483648", SIGN, 3);
    }

    private static void changes() {
        ProgramSchool school = Texts.school("a=b;c=d;e=f;g=h;i(a);j=1;");
        Check.due("fault", NAMES, school.fault());
        Check.due("place", 21, school.faultPlace());
        school.erase(4);
        Check.due("fault after erase", UNKNOWN, school.fault());
        Check.due("place after erase", 16, school.faultPlace());
        school.erase(5);
        Check.due("fault after another erase", NO_FAULT, school.fault());
        Check.due("place after another erase", -1, school.faultPlace());
        Check.due("parts", 4, school.draftParts());
        Texts.append(school, "def f(");
        Check.due("fault after write", UNEXPECTED, school.fault());
        Check.due("place after write", 22, school.faultPlace());
        Texts.append(school, "x){}");
        Check.due("fault after another write", NO_FAULT, school.fault());
        Check.due("parts", 5, school.draftParts());
        school.write(0L);
        Check.due("fault after write of nothing", NO_FAULT, school.fault());
    }

    /** Nothing of a text that was read is left for the next one. */
    private static void readAnew() {
        ProgramSchool school = new ProgramSchool();
        String[] faulty = {"a=b;c=d;e=f;g=h;def x(a,b){if 1{out ((((1$", "def f(a,b,c,d,e,f,g,h){i", "f(1,g(2", "f(((((((((1"};
        for (String text : faulty) {
            Texts.set(school, text);
            Check.due(text + " has a fault", true, school.fault() != NO_FAULT);
            Texts.set(school, "return 1;");
            Check.due("fault of a return behind " + text, UNEXPECTED, school.fault());
            Texts.set(school, text);
            Check.due(text + " has a fault", true, school.fault() != NO_FAULT);
            Texts.set(school, "i=j;k=l;m=n;o=p;out " + "(".repeat(8) + "1" + ")".repeat(8) + ";def f(){}f();");
            Check.due("fault of a program behind " + text, NO_FAULT, school.fault());
            Check.due("parts of a program behind " + text, 7, school.draftParts());
            Check.due("trial of a program behind " + text, ProgramSchool.DONE, school.trial(99, 0, 0));
            Check.due("trialByTree of a program behind " + text, ProgramSchool.DONE, school.trialByTree(99, 0, 0));
        }
    }

    /** What was counted for a text, levels and names, is not counted for the next one. */
    private static void countedAnew() {
        ProgramSchool school = new ProgramSchool();
        for (int i = 0; i < 3; i++) {
            Texts.set(school, "out " + "(".repeat(9) + "1" + ")".repeat(9) + ";");
            Check.due("a 9th level", NESTED, school.fault());
            Check.due("place of the 9th level", 12, school.faultPlace());
            Texts.set(school, "if 1{def f(){}}");
            Check.due("a def in a block", UNEXPECTED, school.fault());
            Check.due("place of the def in a block", 5, school.faultPlace());
            Texts.set(school, "a=1;b=1;c=1;d=1;e=1;f=1;g=1;h=1;");
            Check.due("eight names", NO_FAULT, school.fault());
            Texts.set(school, "def x(a,b,c,d,e,f,g,h){}i=1;j=1;k=1;l=1;m=1;n=1;o=1;p=1;");
            Check.due("eight names besides others of a def", NO_FAULT, school.fault());
        }
    }

    private static void fullDrafts() {
        fault("a=1;".repeat(74) + "a=1+", UNEXPECTED, 300);
        fault("a=1;".repeat(74) + "a=1;", NO_FAULT, -1);
        fault(" ".repeat(299) + "a", UNEXPECTED, 300);
        fault(" ".repeat(299) + "$", SIGN, 299);
        fault("a".repeat(299) + "b", UNEXPECTED, 300);
        fault("{".repeat(300), UNEXPECTED, 0);
        fault("f();".repeat(75), UNKNOWN, 0);
        fault("out 1" + "+1".repeat(147) + ";", NO_FAULT, -1);
        fault("out 1" + "|1".repeat(147) + ";", SIGN, 5);
        fault("f(" + "1,".repeat(148) + "1;", UNEXPECTED, 299);
        fault("f(" + "1,".repeat(147) + "1);", UNKNOWN, 0);
        fault("f(f(f(f(f(f(f(f()))))))),1);".repeat(1), UNEXPECTED, 24);
        fault("f(f(f(f(f(f(f(f()))))))),1);".substring(0, 24).concat(";").repeat(12), UNKNOWN, 0);
    }

    private static void parts() {
        fine("a=in;b=in;if a<b{out b-a;}out a;", 5);
        fine("if 1{if 1{if 1{if 1{if 1{if 1{if 1{if 1{}}}}}}}}", 8);
        fine("if 1{out 1;}else{out 2;out 3;}", 4);
        fine("while 1{a=1;#1=2;f();}def f(){return 1;return 2;}", 7);
        fine("out 1;".repeat(50), 50);
        fine("a=1;".repeat(75), 75);
        fine("def f(){f();}" + "f();".repeat(71), 73);
    }
}
