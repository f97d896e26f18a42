/** Counts answers that are not as due, and tells them. */
final class Check {
    private static int wrong = 0;
    private static int asked = 0;
    private static String about = "";

    private Check() {
    }

    /** The document's sentence that the next answers are about. */
    static void about(String sentence) {
        about = "[" + sentence + "] ";
    }

    static void due(String call, long got, long want) {
        asked++;
        if (got == want) return;
        wrong++;
        if (wrong <= 50) System.out.println(about + call + " answered " + got + ", due is " + want);
    }

    static void holds(String what, boolean holds) {
        due(what, holds ? 1 : 0, 1);
    }

    static void end() {
        System.out.println(asked + " answers, " + wrong + " not as due");
        if (wrong != 0) System.exit(1);
    }

    /** Feeds a text in pieces of eight bytes and less. */
    static void feed(PenaltyGrid grid, String text) {
        for (int from = 0; from < text.length(); from += 8) {
            int n = Math.min(8, text.length() - from);
            long eight = 0;
            for (int i = n - 1; i >= 0; i--) eight = eight << 8 | text.charAt(from + i) & 255;
            grid.feed(eight, n);
        }
    }

    static int read(PenaltyGrid grid, String text) {
        feed(grid, text);
        return grid.read();
    }

    /** Lets many days go by. */
    static void days(PenaltyGrid grid, int n) {
        for (int left = n; left > 0; left -= 2000) grid.days(Math.min(left, 2000));
    }
}
