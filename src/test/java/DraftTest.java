/** Promises 1 to 6: a new object, write, wipe, erase, length, signAt. */
public final class DraftTest {
    public static void main(String[] args) {
        newObject();
        write();
        writeRefused();
        writeFull();
        wipe();
        erase();
        signAt();
        Check.end("DraftTest");
    }

    private static void newObject() {
        ProgramSchool school = new ProgramSchool();
        Check.due("today", 0, school.today());
        Check.due("length", 0, school.length());
        Check.due("answers", 0, school.answers());
        Check.due("outputs", 0, school.outputs());
        Check.due("fuelLeft", 0, school.fuelLeft());
        for (int i = 0; i < 32; i++) {
            Check.due("cellAt", 0, school.cellAt(i));
        }
        Check.due("fault", ProgramSchool.NO_FAULT, school.fault());
        Check.due("faultPlace", ProgramSchool.NONE, school.faultPlace());
        Check.due("draftParts", 0, school.draftParts());
        Check.throwsIndex("signAt of nothing", () -> school.signAt(0));
        Check.throwsIndex("outputAt of nothing", () -> school.outputAt(0));
        Check.throwsIndex("best without exercises", () -> school.best(0, 0));
        Check.throwsIndex("hand without exercises", () -> school.hand(0, 0));
        Check.throwsIndex("mark without answers", () -> school.mark(0));
        // Two objects have nothing in common.
        ProgramSchool other = new ProgramSchool();
        other.write('a');
        other.pass(1);
        Check.due("length of the first", 0, school.length());
        Check.due("today of the first", 0, school.today());
    }

    private static void write() {
        ProgramSchool school = new ProgramSchool();
        Check.due("write of eight", 8, school.write(Texts.packed("out 1+2;")));
        Check.due("write of 0", 8, school.write(0L));
        Check.due("write of one", 9, school.write('a'));
        Check.due("write with bytes of 0", 12, school.write(0x0000630062000061L));
        Check.due("the text", "out 1+2;aabc", Texts.draft(school));
        Check.due("write in the highest byte", 13, school.write((long) 'z' << 56));
        Check.due("the text", "out 1+2;aabcz", Texts.draft(school));
        Check.due("write of the least and greatest signs", 16, school.write(10L | 32L << 8 | 126L << 16));
        Check.due("line feed", 10, school.signAt(13));
        Check.due("blank", 32, school.signAt(14));
        Check.due("126", 126, school.signAt(15));
    }

    private static void writeRefused() {
        for (int bad = 0; bad < 256; bad++) {
            boolean isSign = bad == 0 || bad == 10 || bad >= 32 && bad <= 126;
            for (int place = 0; place < 8; place++) {
                ProgramSchool school = Texts.school("ab");
                long signs = (Texts.packed("cccccccc") & ~(255L << (8 * place))) | (long) bad << (8 * place);
                if (isSign) {
                    Check.due("write of a sign " + bad, bad == 0 ? 9 : 10, school.write(signs));
                } else {
                    Check.throwsArgument("write of a byte " + bad, () -> school.write(signs));
                    Check.due("nothing is written", "ab", Texts.draft(school));
                }
            }
        }
    }

    private static void writeFull() {
        ProgramSchool school = new ProgramSchool();
        for (int i = 0; i < 37; i++) {
            Check.due("write", 8 * i + 8, school.write(Texts.packed("a=1;b=2;")));
        }
        Check.due("five signs more than there is room", ProgramSchool.NONE, school.write(Texts.packed("abcde")));
        Check.due("nothing is written", 296, school.length());
        Check.due("up to 300", 300, school.write(Texts.packed("c=3;")));
        Check.due("none above 300", ProgramSchool.NONE, school.write(' '));
        Check.due("nothing at 300", 300, school.write(0L));
        Check.throwsArgument("a bad byte in a full draft", () -> school.write(1L));
        Check.due("length", 300, school.length());
        Check.due("fault of a full draft", ProgramSchool.NO_FAULT, school.fault());
        Check.due("parts of a full draft", 75, school.draftParts());
        Check.due("last sign", ';', school.signAt(299));
        Check.throwsIndex("behind the last sign", () -> school.signAt(300));
    }

    private static void wipe() {
        ProgramSchool school = Texts.school("a=");
        Check.due("fault", ProgramSchool.UNEXPECTED, school.fault());
        Check.due("wipe", 2, school.wipe());
        Check.due("length", 0, school.length());
        Check.due("fault", ProgramSchool.NO_FAULT, school.fault());
        Check.due("wipe of nothing", 0, school.wipe());
        Check.due("write after wipe", 1, school.write('b'));
        Check.due("the text", "b", Texts.draft(school));
    }

    private static void erase() {
        ProgramSchool school = Texts.school("out 1;x");
        Check.due("fault", ProgramSchool.UNEXPECTED, school.fault());
        Check.throwsArgument("erase of 0", () -> school.erase(0));
        Check.throwsArgument("erase of -1", () -> school.erase(-1));
        Check.throwsArgument("erase of 8", () -> school.erase(8));
        Check.throwsArgument("erase of the least int", () -> school.erase(Integer.MIN_VALUE));
        Check.throwsArgument("erase of the greatest int", () -> school.erase(Integer.MAX_VALUE));
        Check.due("length", 7, school.length());
        Check.due("erase of 1", 6, school.erase(1));
        Check.due("the text", "out 1;", Texts.draft(school));
        Check.due("fault", ProgramSchool.NO_FAULT, school.fault());
        Check.due("write after erase", 8, school.write(Texts.packed("y;")));
        Check.due("the text", "out 1;y;", Texts.draft(school));
        Check.due("erase of all", 0, school.erase(8));
        Check.throwsArgument("erase of nothing", () -> school.erase(1));
    }

    private static void signAt() {
        ProgramSchool school = Texts.school("a~b");
        Check.due("first", 'a', school.signAt(0));
        Check.due("second", '~', school.signAt(1));
        Check.due("last", 'b', school.signAt(2));
        Check.throwsIndex("-1", () -> school.signAt(-1));
        Check.throwsIndex("3", () -> school.signAt(3));
        Check.throwsIndex("least int", () -> school.signAt(Integer.MIN_VALUE));
        Check.throwsIndex("greatest int", () -> school.signAt(Integer.MAX_VALUE));
        school.erase(1);
        Check.throwsIndex("an erased place", () -> school.signAt(2));
    }
}
