/** The bounds of the draft and of texts: the sentences of "Texts" and of promises 1 to 9. */
final class DraftBounds {
    private static final int NO_FAULT = ProgramSchool.NO_FAULT, SIGN = ProgramSchool.SIGN, NUMBER = ProgramSchool.NUMBER,
            UNEXPECTED = ProgramSchool.UNEXPECTED, NONE = ProgramSchool.NONE;
    private static final int MOST_SIGNS = 300;
    private static final String[] KEYWORDS = {"if", "else", "while", "out", "in", "def", "return"};
    /** A text for each fault, by the fault's number; the first one has none. */
    static final String[] FAULTY = {"a=1;", "a=$;", "a=2147483648;", "a=;", "a=---------1;", "a=b+c+d+e+f+g+h+i;",
        "def f(){}def f(){}", "f();", "def f(){}f(1);"};
    private static final int[] FAULT_PLACES = {-1, 2, 2, 2, 10, 16, 13, 0, 9};

    private DraftBounds() {
    }

    static void test() {
        Sentence.section("What it is");
        Sentence.holds("An object is used for at most 512 calls after it has been made", DraftBounds::calls);
        Sentence.section("Texts");
        Sentence.holds("There is one draft, a text of at most 300 signs, empty at first.", DraftBounds::mostSigns);
        Sentence.holds("Blanks and line feeds separate words and are nothing themselves.", DraftBounds::blanks);
        Sentence.holds("A number is a row of digits 0 to 9;", DraftBounds::digits);
        Sentence.holds("a word is a row of letters a to z;", DraftBounds::letters);
        Sentence.holds("each is taken as long as it goes.", DraftBounds::asLongAsItGoes);
        Sentence.holds("The words if, else, while, out, in, def and return are keywords, others are names.", DraftBounds::keywords);
        Sentence.holds("The marks are + - * / % < <= > >= == != && || ! = ( ) { } , ; and #;", DraftBounds::marks);
        Sentence.holds("of two signs that are a mark together, the mark of both is taken.", DraftBounds::marksOfTwo);
        Sentence.holds("A token is a number, a word or a mark; its place is the place of its first sign in the text, from 0 on.", DraftBounds::places);
        Sentence.section("Promise 1: A new object");
        Sentence.holds("Begins on the day 0, with an empty draft, without exercises.", DraftBounds::newObject);
        writing();
        Sentence.section("Promise 3: wipe");
        Sentence.holds("Empties the draft.", DraftBounds::wipe);
        Sentence.holds("Returns how many signs it had.", DraftBounds::wiped);
        Sentence.section("Promise 4: erase");
        Sentence.holds("Erases the last signs of the draft.", DraftBounds::erase);
        Sentence.holds("- `count`: 1 to the number of signs", DraftBounds::eraseCount);
        Sentence.holds("Returns how many signs it has then.", DraftBounds::erased);
        Sentence.holds("Throws `IllegalArgumentException` if count is out of range", DraftBounds::eraseRefused);
        Sentence.section("Promise 5: length");
        Sentence.holds("Returns how many signs the draft has.", DraftBounds::length);
        Sentence.section("Promise 6: signAt");
        Sentence.holds("Returns a sign of the draft.", DraftBounds::signs);
        Sentence.holds("- `place`: 0 for the first one", DraftBounds::signPlaces);
        Sentence.holds("Throws `IndexOutOfBoundsException` if there is no such place", DraftBounds::signRefused);
        reading();
    }

    private static void writing() {
        Sentence.section("Promise 2: write");
        Sentence.holds("Writes signs at the end of the draft.", DraftBounds::writeAtEnd);
        Sentence.holds("- `signs`: eight bytes, the lowest first, each a sign; bytes of 0 are left out", DraftBounds::writeBytes);
        Sentence.holds("Returns how many signs the draft has then; NONE, and nothing is written, if it would have more than 300.", DraftBounds::writeFull);
        Sentence.holds("Throws `IllegalArgumentException` if a byte is neither 0, 10, nor from 32 to 126", DraftBounds::writeRefused);
    }

    private static void reading() {
        Sentence.section("Promise 7: fault");
        Sentence.holds("Returns the fault of the draft.", DraftBounds::faultOfDraft);
        Sentence.holds("Returns NO_FAULT, SIGN, NUMBER, UNEXPECTED, NESTED, NAMES, DOUBLE, UNKNOWN or COUNT.", DraftBounds::faults);
        Sentence.section("Promise 8: faultPlace");
        Sentence.holds("Returns the place of the fault of the draft.", DraftBounds::faultPlaceOfDraft);
        Sentence.holds("Returns the place; NONE if there is no fault.", DraftBounds::faultPlaces);
        Sentence.section("Promise 9: draftParts");
        Sentence.holds("Returns how many parts the draft has.", DraftBounds::parts);
        Sentence.holds("Throws `IllegalStateException` if it has a fault", DraftBounds::partsRefused);
    }

    private static String full() {
        return "a=1;".repeat(MOST_SIGNS / 4);
    }

    /** The 512th call is one of those that are promised. */
    private static void calls() {
        for (int last = 0; last < 6; last++) {
            ProgramSchool school = new ProgramSchool();
            school.addExercise(10, 0);
            school.addTest(0, 1, 0, 0, 0, 0, 0);
            int calls = 2;
            for (int i = 0; i < 3; i++) {
                school.wipe();
                school.write(Texts.packed("a=1;b=2;"));
                school.write(Texts.packed("c=in;"));
                school.hand(i, 0);
                calls += 4;
            }
            while (calls < 511) {
                school.trial(calls, 0, 0);
                calls++;
            }
            switch (last) {
                case 0: Check.due("write", 21, school.write(Texts.packed("a=1;b=2;"))); break;
                case 1: Check.due("trial", ProgramSchool.DONE, school.trial(9, 0, 0)); break;
                case 2: Check.due("fuelLeft", 506, school.fuelLeft()); break;
                case 3: Check.due("hand", 3, school.hand(5, 0)); break;
                case 4: Check.due("markAnew", 100, school.markAnew(2)); break;
                default: Check.due("accuse", 100, school.accuse(2, 1));
            }
        }
    }

    private static void mostSigns() {
        ProgramSchool school = new ProgramSchool();
        Check.due("length at first", 0, school.length());
        Check.due("parts at first", 0, school.draftParts());
        for (int i = 1; i <= 37; i++) {
            Check.due("write", 8 * i, school.write(Texts.packed("a=1;b=2;")));
        }
        Check.due("write up to 299", 299, school.write(Texts.packed("c=3")));
        Check.due("write of the 300th sign", 300, school.write(';'));
        Check.due("write of a 301st sign", NONE, school.write(';'));
        Check.due("length", 300, school.length());
        Check.due("the 300th sign is read", NO_FAULT, school.fault());
        Check.due("parts", 75, school.draftParts());
    }

    private static void blanks() {
        FaultTest.fine(" ", 0);
        FaultTest.fine("\n", 0);
        FaultTest.fine(" \n \n", 0);
        FaultTest.fine(" a \n=\n 1 ;\n", 1);
        TrialTest.run("out 12;", 9, 0, 0, ProgramSchool.DONE, 8, "12");
        FaultTest.fault("out 1 2;", UNEXPECTED, 6);
        FaultTest.fault("out 1\n2;", UNEXPECTED, 6);
        FaultTest.fine("out a;", 1);
        FaultTest.fine("out\na;", 1);
        FaultTest.fault("outa;", UNEXPECTED, 4);
        FaultTest.fault("ou t=1;", UNEXPECTED, 3);
        FaultTest.fault("out 1 <= 2; out 1 < = 2;", UNEXPECTED, 20);
        FaultTest.fault("out 1=\n=2;", UNEXPECTED, 5);
        FaultTest.fault("out 1& &2;", SIGN, 5);
        // The sign next to a blank is none.
        FaultTest.fault("out!1;", NO_FAULT, NONE);
        FaultTest.fault("a=1;!", UNEXPECTED, 4);
    }

    private static void digits() {
        TrialTest.run("out 0;out 9;out 1234567890;", 9, 0, 0, ProgramSchool.DONE, 6, "0 9 1234567890");
        // The signs next to 0 and 9.
        TrialTest.run("out 8/2;", 9, 0, 0, ProgramSchool.DONE, 7, "4");
        FaultTest.fault("out 8:2;", SIGN, 5);
        FaultTest.fault("out :;", SIGN, 4);
        TrialTest.run("out 007;", 9, 0, 0, ProgramSchool.DONE, 8, "7");
    }

    private static void letters() {
        FaultTest.fine("a=z;", 1);
        FaultTest.fine("abcdefghijklmnopqrstuvwxyz=1;", 1);
        // The signs next to a and z, and the capitals.
        FaultTest.fault("a=`;", SIGN, 2);
        FaultTest.fault("z`=1;", SIGN, 1);
        FaultTest.fine("if z{}", 1);
        FaultTest.fault("a=|;", SIGN, 2);
        FaultTest.fault("A=1;", SIGN, 0);
        FaultTest.fault("Z=1;", SIGN, 0);
        FaultTest.fault("a=bC;", SIGN, 3);
        FaultTest.fault("a=@;", SIGN, 2);
        FaultTest.fault("a=[;", SIGN, 2);
    }

    private static void asLongAsItGoes() {
        TrialTest.run("ab=1;a=2;out ab;out a;out abc;", 9, 0, 0, ProgramSchool.DONE, 4, "1 2 0");
        FaultTest.fault("out 1a;", UNEXPECTED, 5);
        FaultTest.fault("a1=2;", UNEXPECTED, 1);
        FaultTest.fine("out1;", 1);
        FaultTest.fine("if1{}else{}", 1);
        FaultTest.fault("a".repeat(298) + "=1", UNEXPECTED, 300);
        FaultTest.fine("a".repeat(297) + "=1;", 1);
        FaultTest.fine("out " + "0".repeat(294) + "1;", 1);
    }

    private static void keywords() {
        for (String word : KEYWORDS) {
            FaultTest.fine(word + "x=1;", 1);
            FaultTest.fine("x" + word + "=1;", 1);
            FaultTest.fine(word.substring(0, word.length() - 1) + "=1;", 1);
            FaultTest.fine(word.substring(1) + "=1;", 1);
            ProgramSchool school = Texts.school(word + "=1;");
            Check.due("fault of " + word + "=1;", UNEXPECTED, school.fault());
            Texts.set(school, "def " + word + "(){}");
            Check.due("fault of a def " + word, UNEXPECTED, school.fault());
            Check.due("faultPlace of a def " + word, 4, school.faultPlace());
        }
        FaultTest.fine("elsewhile=1;outin=2;defreturn=3;ifelse=4;", 4);
    }

    private static void marks() {
        TrialTest.takes("out 7+2;out 7-2;out 7*2;out 7/2;out 7%2;", 10, "9 5 14 3 1");
        TrialTest.takes("out 1<2;out 2<=2;out 1>2;out 2>=2;out 1==2;out 1!=2;", 12, "1 1 0 1 0 1");
        TrialTest.takes("out 1&&2;out 0||0;out !1;", 6, "1 0 0");
        TrialTest.takes("#(1)=5;if 1{f(#1,2);}def f(a,b){out a;}", 6, "5");
        // Every other sign is no mark.
        for (char sign = 33; sign < 127; sign++) {
            boolean isMark = "+-*/%<>!=(){},;#".indexOf(sign) >= 0;
            boolean isWord = sign >= '0' && sign <= '9' || sign >= 'a' && sign <= 'z';
            ProgramSchool school = Texts.school("a=1 " + sign);
            Check.due("a=1 " + sign + " has a SIGN", !isMark && !isWord, school.fault() == SIGN);
            Check.due("faultPlace of a=1 " + sign, sign == ';' || isBinary(sign) ? sign == ';' ? NONE : 5 : 4, school.faultPlace());
        }
    }

    private static boolean isBinary(char sign) {
        return "+-*/%<>".indexOf(sign) >= 0;
    }

    private static void marksOfTwo() {
        String[] twos = {"<=", ">=", "==", "!=", "&&", "||"};
        for (String two : twos) {
            FaultTest.fine("out 1" + two + "2;", 1);
            ProgramSchool school = Texts.school("out 1" + two.charAt(0) + " " + two.charAt(1) + "2;");
            Check.due("a blank amid " + two + " is a fault", true, school.fault() != NO_FAULT);
        }
        FaultTest.fault("a===1;", UNEXPECTED, 1);
        FaultTest.fault("out 1===1;", UNEXPECTED, 7);
        FaultTest.fault("out 1<==1;", UNEXPECTED, 7);
        FaultTest.fault("out 1!==1;", UNEXPECTED, 7);
        FaultTest.fault("out 1&&&1;", SIGN, 7);
        FaultTest.fault("out 1|||1;", SIGN, 7);
        FaultTest.fault("out 1&&&&1;", UNEXPECTED, 7);
        FaultTest.fault("out 1=<1;", UNEXPECTED, 5);
        FaultTest.fault("out 1=>1;", UNEXPECTED, 5);
        FaultTest.fault("out 1=!1;", UNEXPECTED, 5);
        // These are no mark together.
        TrialTest.takes("out 1<-2;out 1--2;out!!3;out 2*-1;out 3-!0;", 15, "0 3 1 -2 2");
        TrialTest.takes("out 1==!2;out 1!=!2;", 6, "0 1");
        FaultTest.fault("out 1<>2;", UNEXPECTED, 6);
        FaultTest.fault("out 1++2;", UNEXPECTED, 6);
        FaultTest.fault("out 1**2;", UNEXPECTED, 6);
    }

    private static void places() {
        FaultTest.fault("$", SIGN, 0);
        FaultTest.fault("else", UNEXPECTED, 0);
        FaultTest.fault(" $", SIGN, 1);
        FaultTest.fault("\n\n else", UNEXPECTED, 3);
        FaultTest.fault("abc def", UNEXPECTED, 4);
        FaultTest.fault("out 99999999999;", NUMBER, 4);
        FaultTest.fault("out  1  <=  <=1;", UNEXPECTED, 12);
        FaultTest.fault(" ".repeat(298) + "&|", SIGN, 298);
        FaultTest.fault(" ".repeat(299) + "}", UNEXPECTED, 299);
    }

    private static void newObject() {
        ProgramSchool school = new ProgramSchool();
        Check.due("today", 0, school.today());
        Check.due("length", 0, school.length());
        Check.throwsIndex("signAt", () -> school.signAt(0));
        Check.due("wipe", 0, school.wipe());
        Check.throwsIndex("an exercise", () -> school.best(0, 0));
        Check.throwsIndex("a test", () -> school.passed(0, 0));
        Check.due("answers", 0, school.answers());
        Check.due("the first exercise", 0, school.addExercise(1, 0));
        Check.due("best of a pupil", NONE, school.best(0, 0));
    }

    private static void writeAtEnd() {
        ProgramSchool school = new ProgramSchool();
        school.write(Texts.packed("out 1;"));
        school.write(Texts.packed("a=2;"));
        Check.due("the draft", "out 1;a=2;", Texts.draft(school));
        school.erase(4);
        school.write(Texts.packed("b"));
        Check.due("the draft behind what was erased", "out 1;b", Texts.draft(school));
        school.wipe();
        school.write(Texts.packed("c"));
        Check.due("the draft behind what was wiped", "c", Texts.draft(school));
    }

    private static void writeBytes() {
        ProgramSchool school = new ProgramSchool();
        Check.due("eight signs", 8, school.write(0x6867666564636261L));
        Check.due("the lowest is the first", "abcdefgh", Texts.draft(school));
        for (int place = 0; place < 8; place++) {
            Check.due("one sign in byte " + place, 9 + place, school.write((long) ('0' + place) << (8 * place)));
        }
        Check.due("no sign", 16, school.write(0));
        Check.due("bytes of 0 between signs", 18, school.write(0x7a00000000000079L));
        Check.due("all", "abcdefgh01234567yz", Texts.draft(school));
        Check.due("126 in all bytes", 26, school.write(0x7e7e7e7e7e7e7e7eL));
        Check.due("the last sign", 126, school.signAt(25));
    }

    private static void writeFull() {
        ProgramSchool school = Texts.school(full().substring(0, 292));
        Check.due("eight signs from 292 on", 300, school.write(Texts.packed("a=1;a=1;")));
        Check.due("nothing in a full draft", 300, school.write(0));
        Check.due("a sign in a full draft", NONE, school.write(';'));
        Check.due("the draft", full(), Texts.draft(school));
        ProgramSchool other = Texts.school(full().substring(0, 293));
        Check.due("eight signs from 293 on", NONE, other.write(Texts.packed("=1;a=1;a")));
        Check.due("length", 293, other.length());
        Check.due("fault as before", UNEXPECTED, other.fault());
        Check.due("faultPlace as before", 293, other.faultPlace());
        Check.due("seven signs from 293 on", 300, other.write(Texts.packed("=1;a=1;")));
        Check.due("parts", 75, other.draftParts());
        other.erase(1);
        Check.due("two signs from 299 on", NONE, other.write(Texts.packed(";;")));
        Check.due("one sign from 299 on", 300, other.write(Texts.packed(";")));
        Check.due("the first write of all", 8, new ProgramSchool().write(Texts.packed("abcdefgh")));
    }

    private static void writeRefused() {
        int[] fine = {0, 10, 32, 33, 125, 126};
        int[] bad = {1, 9, 11, 13, 31, 127, 128, 138, 160, 255};
        for (int place = 0; place < 8; place++) {
            ProgramSchool school = Texts.school("ab");
            long others = Texts.packed("cccccccc") & ~(255L << (8 * place));
            for (int sign : bad) {
                long signs = others | (long) sign << (8 * place);
                Check.throwsArgument("write of " + sign + " in byte " + place, () -> school.write(signs));
                Check.throwsArgument("write of " + sign + " alone in byte " + place, () -> school.write(signs & ~others));
            }
            Check.due("the draft as before", "ab", Texts.draft(school));
            for (int sign : fine) {
                int length = school.length();
                int written = school.write(others | (long) sign << (8 * place));
                Check.due("write of " + sign + " in byte " + place, length + (sign == 0 ? 7 : 8), written);
                Check.due("the sign " + sign, sign == 0 ? 'c' : sign, school.signAt(length + (sign == 0 ? 6 : place)));
            }
        }
        ProgramSchool school = Texts.school(full());
        Check.throwsArgument("a bad byte where there is no room", () -> school.write(Texts.packed("abc") | 31L << 56));
        Check.throwsArgument("a bad byte alone where there is no room", () -> school.write(127));
    }

    private static void wipe() {
        for (int length : new int[] {0, 1, 299, 300}) {
            ProgramSchool school = Texts.school(Schools.padded("", length));
            school.wipe();
            Check.due("length after wipe of " + length, 0, school.length());
            Check.throwsIndex("signAt after wipe of " + length, () -> school.signAt(0));
            Check.due("fault after wipe of " + length, NO_FAULT, school.fault());
            Texts.append(school, full());
            Check.due("room after wipe of " + length, 300, school.length());
        }
        ProgramSchool school = Texts.school("?");
        Check.due("fault", SIGN, school.fault());
        school.wipe();
        Check.due("fault after wipe", NO_FAULT, school.fault());
        Check.due("parts after wipe", 0, school.draftParts());
    }

    private static void wiped() {
        for (int length : new int[] {0, 1, 8, 299, 300}) {
            ProgramSchool school = Texts.school(full().substring(0, length));
            Check.due("wipe of " + length, length, school.wipe());
            Check.due("wipe once more", 0, school.wipe());
        }
    }

    private static void erase() {
        ProgramSchool school = Texts.school("a=1;b=2;");
        school.erase(1);
        Check.due("the draft without its last sign", "a=1;b=2", Texts.draft(school));
        Check.due("its fault", UNEXPECTED, school.fault());
        school.erase(3);
        Check.due("the draft without four", "a=1;", Texts.draft(school));
        Check.due("its fault", NO_FAULT, school.fault());
        school.erase(4);
        Check.due("the draft without all", "", Texts.draft(school));
        Check.due("its parts", 0, school.draftParts());
    }

    private static void eraseCount() {
        for (int length : new int[] {1, 2, 300}) {
            ProgramSchool school = Texts.school(full().substring(0, length));
            Check.due("erase of all " + length, 0, school.erase(length));
            ProgramSchool other = Texts.school(full().substring(0, length));
            Check.due("erase of one of " + length, length - 1, other.erase(1));
        }
    }

    private static void erased() {
        ProgramSchool school = Texts.school(full());
        Check.due("erase of 1", 299, school.erase(1));
        Check.due("erase of 298", 1, school.erase(298));
        Check.due("erase of the last one", 0, school.erase(1));
    }

    private static void eraseRefused() {
        for (int length : new int[] {0, 1, 2, 299, 300}) {
            ProgramSchool school = Texts.school(full().substring(0, length));
            for (int count : new int[] {0, -1, length + 1, length + 2, Schools.LEAST, Schools.GREATEST}) {
                Check.throwsArgument("erase of " + count + " of " + length, () -> school.erase(count));
            }
            Check.due("length as before", length, school.length());
        }
    }

    private static void length() {
        for (int length : new int[] {0, 1, 7, 8, 9, 299, 300}) {
            Check.due("length", length, Texts.school(full().substring(0, length)).length());
        }
        ProgramSchool school = Texts.school(" \n ");
        Check.due("length of what separates words", 3, school.length());
        school.write(';');
        Check.due("length after a refused text", 4, school.length());
    }

    private static void signs() {
        String text = " \n~!azAZ09";
        ProgramSchool school = Texts.school(text);
        for (int i = 0; i < text.length(); i++) {
            Check.due("signAt(" + i + ")", text.charAt(i), school.signAt(i));
        }
    }

    private static void signPlaces() {
        ProgramSchool school = Texts.school("x" + " ".repeat(298) + "y");
        Check.due("the first one", 'x', school.signAt(0));
        Check.due("the second one", ' ', school.signAt(1));
        Check.due("the last but one", ' ', school.signAt(298));
        Check.due("the last one", 'y', school.signAt(299));
        Check.due("the only one", 'z', Texts.school("z").signAt(0));
    }

    private static void signRefused() {
        for (int length : new int[] {0, 1, 299, 300}) {
            ProgramSchool school = Texts.school(full().substring(0, length));
            for (int place : new int[] {-1, length, length + 1, Schools.LEAST, Schools.GREATEST}) {
                Check.throwsIndex("signAt(" + place + ") of " + length, () -> school.signAt(place));
            }
        }
        ProgramSchool school = Texts.school("ab");
        school.erase(1);
        Check.throwsIndex("signAt of an erased place", () -> school.signAt(1));
        school.wipe();
        Check.throwsIndex("signAt of a wiped place", () -> school.signAt(0));
    }

    private static void faultOfDraft() {
        ProgramSchool school = new ProgramSchool();
        Check.due("of an empty draft", NO_FAULT, school.fault());
        Texts.append(school, "a=1");
        Check.due("of a draft without its end", UNEXPECTED, school.fault());
        school.write(';');
        Check.due("of a draft with its end", NO_FAULT, school.fault());
        school.write('?');
        Check.due("of a draft with a bad sign", SIGN, school.fault());
        school.erase(1);
        Check.due("of a draft without it", NO_FAULT, school.fault());
    }

    private static void faults() {
        for (int fault = NO_FAULT; fault <= ProgramSchool.COUNT; fault++) {
            Check.due("fault of " + FAULTY[fault], fault, Texts.school(FAULTY[fault]).fault());
        }
    }

    private static void faultPlaceOfDraft() {
        for (int fault = NO_FAULT; fault <= ProgramSchool.COUNT; fault++) {
            Check.due("faultPlace of " + FAULTY[fault], FAULT_PLACES[fault], Texts.school(FAULTY[fault]).faultPlace());
        }
    }

    private static void faultPlaces() {
        Check.due("of an empty draft", NONE, new ProgramSchool().faultPlace());
        Check.due("of the first sign", 0, Texts.school("$").faultPlace());
        Check.due("of the only word, at its end", 1, Texts.school("a").faultPlace());
        Check.due("of the last place", 299, Texts.school(" ".repeat(299) + "$").faultPlace());
        Check.due("of the end of a full draft", 300, Texts.school(" ".repeat(299) + "a").faultPlace());
        Check.due("of a full draft without a fault", NONE, Texts.school(full()).faultPlace());
        ProgramSchool school = Texts.school("a=1;$");
        Check.due("with a fault", 4, school.faultPlace());
        school.erase(1);
        Check.due("without it", NONE, school.faultPlace());
    }

    private static void parts() {
        FaultTest.fine("", 0);
        FaultTest.fine("a=1;", 1);
        FaultTest.fine(full(), 75);
        FaultTest.fine("def f(){}", 1);
        FaultTest.fine("if 1{}else{}", 1);
        FaultTest.fine("if 1{a=1;}else{b=1;}", 3);
    }

    private static void partsRefused() {
        for (int fault = ProgramSchool.SIGN; fault <= ProgramSchool.COUNT; fault++) {
            Check.throwsState("draftParts of " + FAULTY[fault], Texts.school(FAULTY[fault])::draftParts);
        }
        Check.due("draftParts of " + FAULTY[NO_FAULT], 1, Texts.school(FAULTY[NO_FAULT]).draftParts());
        ProgramSchool school = Texts.school("a=1;b");
        Check.throwsState("with a fault", school::draftParts);
        school.erase(1);
        Check.due("without it", 1, school.draftParts());
    }
}
