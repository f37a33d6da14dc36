/** Writes texts into drafts. */
final class Texts {
    private Texts() {
    }

    /** Up to eight signs from a place of a text on, as write takes them. */
    static long packed(String text, int from) {
        long signs = 0;
        for (int i = 0; i < 8 && from + i < text.length(); i++) {
            signs |= (long) (text.charAt(from + i) & 255) << (8 * i);
        }
        return signs;
    }

    static long packed(String text) {
        return packed(text, 0);
    }

    static void append(ProgramSchool school, String text) {
        for (int i = 0; i < text.length(); i += 8) {
            school.write(packed(text, i));
        }
    }

    static void set(ProgramSchool school, String text) {
        school.wipe();
        append(school, text);
    }

    static ProgramSchool school(String text) {
        ProgramSchool school = new ProgramSchool();
        append(school, text);
        return school;
    }

    static String draft(ProgramSchool school) {
        StringBuilder text = new StringBuilder();
        int length = school.length();
        for (int i = 0; i < length; i++) {
            text.append(school.signAt(i));
        }
        return text.toString();
    }
}
