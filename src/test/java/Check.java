/** Counts and prints the answers of a test that are not the ones that are due. */
final class Check {
    interface Call {
        long get();
    }

    private static int wrong = 0;
    private static int asked = 0;
    private static String topic = "";

    private Check() {
    }

    /** What the answers that follow are about: it is told with those that are wrong. */
    static void about(String newTopic) {
        topic = newTopic;
    }

    private static void wrong(String what) {
        wrong++;
        System.out.println((topic.isEmpty() ? "" : "[" + topic + "] ") + what);
    }

    /** For a test that was ended by an exception, which no call of it may throw. */
    static void ended(RuntimeException e) {
        asked++;
        wrong("was ended by " + e + " at " + (e.getStackTrace().length > 0 ? e.getStackTrace()[0] : "nowhere"));
    }

    static void due(String what, long want, long got) {
        asked++;
        if (want != got) {
            wrong(what + " answered " + got + ", due is " + want);
        }
    }

    static void due(String what, boolean want, boolean got) {
        due(what, want ? 1 : 0, got ? 1 : 0);
    }

    static void due(String what, String want, String got) {
        asked++;
        if (!want.equals(got)) {
            wrong(what + " answered " + got + ", due is " + want);
        }
    }

    /** An answer as a text; the name of the exception if the call throws one. */
    static String answer(Call call) {
        try {
            return Long.toString(call.get());
        } catch (RuntimeException e) {
            return (isThrownByCode(e) ? "" : "the machine's ") + e.getClass().getSimpleName();
        }
    }

    /** The program has to throw itself: neither the library nor the machine may throw in it. */
    private static boolean isThrownByCode(RuntimeException e) {
        StackTraceElement[] trace = e.getStackTrace();
        String message = e.getMessage() == null ? "" : e.getMessage();
        return trace.length > 0 && !trace[0].getClassName().startsWith("java.")
                && !trace[0].getClassName().startsWith("jdk.") && !message.startsWith("Index ");
    }

    static void throwsIndex(String what, Call call) {
        due(what, "IndexOutOfBoundsException", answer(call));
    }

    static void throwsArgument(String what, Call call) {
        due(what, "IllegalArgumentException", answer(call));
    }

    static void throwsState(String what, Call call) {
        due(what, "IllegalStateException", answer(call));
    }

    /** Ends a test: with exit code 1 if an answer was wrong, or none was asked for. */
    static void end(String test) {
        System.out.println(test + ": " + asked + " answers, " + wrong + " wrong");
        if (wrong > 0 || asked == 0) {
            System.exit(1);
        }
    }
}
