/** Counts the answers that are not as due, and ends the test. */
final class Due {
    private static int wrong = 0;
    private static int looked = 0;

    private Due() {
    }

    static void due(String call, long got, long want) {
        looked++;
        if (got != want) {
            wrong++;
            System.out.println(call + " answered " + got + " (0x" + Long.toHexString(got) + "), due is " + want
                    + " (0x" + Long.toHexString(want) + ")");
        }
    }

    static void due(String call, boolean got, boolean want) {
        due(call, got ? 1 : 0, want ? 1 : 0);
    }

    static void end() {
        if (looked == 0) {
            System.out.println("nothing was looked at");
            System.exit(1);
        }
        System.out.println(wrong == 0 ? looked + " answers are as due" : wrong + " answers are not as due");
        if (wrong != 0) {
            System.exit(1);
        }
    }
}
