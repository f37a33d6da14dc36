import java.lang.management.ManagementFactory;

/** The room that 512 calls take: LANGUAGE.md, rule 12, counts what a run makes. */
public final class RoomTest {
    // 7.3 million fields and elements are some 29 million bytes; a run stays far below that, even
    // one that makes an object with every eighth call.
    private static final long MAX_BYTES = 14_000_000;

    public static void main(String[] args) {
        com.sun.management.ThreadMXBean threads = (com.sun.management.ThreadMXBean) ManagementFactory.getThreadMXBean();
        long id = Thread.currentThread().getId();
        for (int kind = 0; kind < 4; kind++) {
            calls(kind);
            long before = threads.getThreadAllocatedBytes(id);
            calls(kind);
            long taken = threads.getThreadAllocatedBytes(id) - before;
            System.out.println("The calls of kind " + kind + " take " + taken + " bytes");
            Check.due("kind " + kind + " takes little room", true, taken < MAX_BYTES);
        }
        Check.end("RoomTest");
    }

    private static void calls(int kind) {
        if (kind == 0) {
            for (int i = 0; i < 64; i++) {
                new ProgramSchool().length();
            }
            return;
        }
        ProgramSchool school = new ProgramSchool();
        school.addExercise(2000, 0);
        for (int i = 0; i < 8; i++) {
            school.addTest(0, 1, i, i, 1, i, i);
        }
        for (int i = 0; i < 37; i++) {
            school.write(Texts.packed("a=1;b=2;"));
        }
        for (int i = 0; i < 30; i++) {
            school.hand(i % 6, 0);
            school.erase(1);
            school.write(kind == 1 ? ';' : 'x');
            school.fault();
            school.erase(1);
            school.write(';');
        }
        for (int i = 0; i < 280; i++) {
            if (kind == 2) {
                school.trial(5000, 1, 2);
            } else if (kind == 3) {
                school.markAnew(i % 30);
            } else {
                school.doubt(29);
            }
        }
    }
}
