/** Counts the answers of one test program and tells those that are not the ones due. */
final class Check {
    private static final int MOST_TOLD = 40;

    private static int right;
    private static int wrong;
    private static String sentence = "";
    private static int sentences;
    private static int countBefore;

    private Check() {
    }

    static void due(String what, long got, long want) {
        if (got == want) {
            right++;
            return;
        }
        wrong++;
        if (wrong <= MOST_TOLD) {
            String told = sentence.isEmpty() ? "" : "\"" + sentence + "\": ";
            System.out.println(told + what + ": answered " + hex(got) + ", due is " + hex(want));
        }
    }

    static void due(String what, boolean got, boolean want) {
        due(what, got ? 1 : 0, want ? 1 : 0);
    }

    /** The document's words that the answers from here on are due by: at least one answer. */
    static void sentence(String words) {
        endSentence();
        sentence = words;
        sentences++;
    }

    private static void endSentence() {
        if (!sentence.isEmpty() && right + wrong == countBefore) {
            wrong++;
            System.out.println("\"" + sentence + "\": no answer was looked at");
        }
        countBefore = right + wrong;
    }

    /** The last call of each main method. */
    static void finish() {
        endSentence();
        String of = sentences == 0 ? "" : sentences + " sentences: ";
        System.out.println(of + right + " answers as due, " + wrong + " not");
        if (wrong != 0 || right == 0) {
            System.exit(1);
        }
    }

    private static String hex(long v) {
        return v < 0 ? Long.toString(v) : v + " (hex " + Long.toHexString(v) + ")";
    }
}
