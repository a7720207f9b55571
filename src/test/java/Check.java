/** Counts the answers of one test program and tells those that are not the ones due. */
final class Check {
    private static final int MOST_TOLD = 40;

    private static int right;
    private static int wrong;

    private Check() {
    }

    static void due(String what, long got, long want) {
        if (got == want) {
            right++;
            return;
        }
        wrong++;
        if (wrong <= MOST_TOLD) {
            System.out.println(what + ": answered " + hex(got) + ", due is " + hex(want));
        }
    }

    static void due(String what, boolean got, boolean want) {
        due(what, got ? 1 : 0, want ? 1 : 0);
    }

    /** The last call of each main method. */
    static void finish() {
        System.out.println(right + " answers as due, " + wrong + " not");
        if (wrong != 0 || right == 0) {
            System.exit(1);
        }
    }

    private static String hex(long v) {
        return v < 0 ? Long.toString(v) : v + " (hex " + Long.toHexString(v) + ")";
    }
}
