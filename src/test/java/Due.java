/** Counts the answers that are not as due, and ends the test. */
final class Due {
    private static int wrong = 0;
    private static int looked = 0;
    private static int sentences = 0;
    private static String sentence = "";
    private static int lookedBefore = 0;

    private Due() {
    }

    /** What follows is due by these words of the document. */
    static void sentence(String words) {
        endSentence();
        sentence = words;
        sentences++;
        lookedBefore = looked;
    }

    private static void endSentence() {
        if (sentences > 0 && looked == lookedBefore) {
            wrong++;
            System.out.println("[" + sentence + "] was not looked at");
        }
    }

    static void due(String call, long got, long want) {
        looked++;
        if (got != want) {
            wrong++;
            String by = sentences > 0 ? "[" + sentence + "] " : "";
            System.out.println(by + call + " answered " + got + " (0x" + Long.toHexString(got) + "), due is " + want
                    + " (0x" + Long.toHexString(want) + ")");
        }
    }

    static void due(String call, boolean got, boolean want) {
        due(call, got ? 1 : 0, want ? 1 : 0);
    }

    static void end() {
        endSentence();
        if (looked == 0) {
            System.out.println("nothing was looked at");
            System.exit(1);
        }
        String of = sentences > 0 ? " by " + sentences + " sentences" : "";
        System.out.println(wrong == 0 ? looked + " answers are as due" + of : wrong + " answers are not as due");
        if (wrong != 0) {
            System.exit(1);
        }
    }
}
