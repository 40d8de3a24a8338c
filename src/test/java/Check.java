/** Counts the answers that are not as due. */
final class Check {
    interface Call {
        long answer();
    }

    static final String INDEX = "IndexOutOfBoundsException";
    static final String ARGUMENT = "IllegalArgumentException";
    static final String STATE = "IllegalStateException";

    private static String sentence = "";
    private static int wrong = 0;
    private static int asked = 0;

    private Check() {
    }

    /** Goes on behind a part that an exception ends, so that each part stands for itself. */
    static void part(Runnable part) {
        sentence = "";
        try {
            part.run();
        } catch (RuntimeException e) {
            String where = e.getStackTrace().length > 1 ? e.getStackTrace()[1].toString() : "unknown";
            due("a call at " + where, "an answer", "throws." + e);
        }
    }

    /** The sentence of the document that the next answers of this part are held against. */
    static void sentence(String words) {
        sentence = words;
    }

    static void due(String what, long want, long got) {
        due(what, Long.toString(want), Long.toString(got));
    }

    static void due(String what, boolean want, boolean got) {
        due(what, want ? 1 : 0, got ? 1 : 0);
    }

    static void due(String what, String want, String got) {
        asked++;
        if (!want.equals(got)) {
            wrong++;
            System.out.println(what + " answered " + got + ", due is " + want);
            if (!sentence.isEmpty()) {
                System.out.println("    against: " + sentence);
            }
        }
    }

    static void dueThrow(String what, String want, Call call) {
        due(what, "throws." + want, outcome(call));
    }

    /** The answer as a text, or the name of what was thrown. */
    static String outcome(Call call) {
        try {
            return Long.toString(call.answer());
        } catch (RuntimeException e) {
            return "throws." + e.getClass().getSimpleName();
        }
    }

    static void end() {
        if (wrong == 0) {
            System.out.println(asked + " answers, all as due");
        } else {
            System.out.println(wrong + " of " + asked + " answers not as due");
            System.exit(1);
        }
    }
}
