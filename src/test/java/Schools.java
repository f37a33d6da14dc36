/** Schools that tests begin with, and what is often done in them. */
final class Schools {
    static final int MOST_FUEL = 2000;
    static final int LAST_DAY = 1000;
    /** What no int argument of a place or a range may be. */
    static final int LEAST = Integer.MIN_VALUE, GREATEST = Integer.MAX_VALUE;

    private Schools() {
    }

    /** A school with one exercise, which is due on a day. */
    static ProgramSchool due(int day) {
        ProgramSchool school = new ProgramSchool();
        school.addExercise(MOST_FUEL, day);
        return school;
    }

    /** A school with one exercise, for which pupils, from 0 on, have handed texts in. */
    static ProgramSchool handed(String... texts) {
        ProgramSchool school = due(LAST_DAY);
        for (int i = 0; i < texts.length; i++) {
            hand(school, i % 6, 0, texts[i]);
        }
        return school;
    }

    static int hand(ProgramSchool school, int pupil, int exercise, String text) {
        Texts.set(school, text);
        return school.hand(pupil, exercise);
    }

    /** Adds a test that a run passes with this one output; both inputs are 0. */
    static int expect(ProgramSchool school, int exercise, int weight, int output) {
        return school.addTest(exercise, weight, 0, 0, 1, output, 0);
    }

    static void passTo(ProgramSchool school, int day) {
        while (school.today() < day) {
            school.pass(Math.min(100, day - school.today()));
        }
    }

    /** The text, with blanks behind it up to a length. */
    static String padded(String text, int length) {
        return text + " ".repeat(length - text.length());
    }

    static String outputsOf(ProgramSchool school) {
        StringBuilder made = new StringBuilder();
        for (int i = 0; i < school.outputs(); i++) {
            made.append(i == 0 ? "" : " ").append(school.outputAt(i));
        }
        return made.toString();
    }
}
