/** Counts the checks of a test and tells those that fail. */
final class Check {
    /** A call of the face; booleans count 1 and 0. */
    interface Call {
        long answer();
    }

    private int passed = 0;
    private int failed = 0;

    static long bool(boolean answer) {
        return answer ? 1 : 0;
    }

    /** What a call answers, or throws.NAME with the name of what it throws. */
    static String outcome(Call call) {
        try {
            return Long.toString(call.answer());
        } catch (RuntimeException e) {
            return "throws." + e.getClass().getSimpleName();
        }
    }

    void due(String what, long want, long got) {
        same(what, Long.toString(want), Long.toString(got));
    }

    void due(String what, boolean want, boolean got) {
        same(what, Boolean.toString(want), Boolean.toString(got));
    }

    void indexThrown(String what, Call call) {
        same(what, "throws.IndexOutOfBoundsException", outcome(call));
    }

    void argumentThrown(String what, Call call) {
        same(what, "throws.IllegalArgumentException", outcome(call));
    }

    void stateThrown(String what, Call call) {
        same(what, "throws.IllegalStateException", outcome(call));
    }

    void same(String what, String want, String got) {
        if (want.equals(got)) {
            passed++;
        } else {
            failed++;
            System.out.println("FAILED " + what + ": due is " + want + ", but it was " + got);
        }
    }

    /** The closing line of a test; a failed check ends the program with exit code 1. */
    void close(String test) {
        System.out.println(test);
        System.out.println(passed + " passed, " + failed + " failed");
        if (failed > 0) {
            System.exit(1);
        }
    }
}
