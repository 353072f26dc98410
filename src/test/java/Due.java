/** What the tests of the edges share: a sentence of the document, then the answers that are due by it. */
final class Due {
    static final int UNKNOWN = -1, BAD = -2, STATE = -3, FULL = -4, NONE = -9;
    static final int LOW = Integer.MIN_VALUE, HIGH = Integer.MAX_VALUE;

    private static String sentence = "";
    private static int sentences = 0;
    private static int answers = 0;
    private static int wrong = 0;

    private Due() {
    }

    /** The words that the next answers are due by; promise 0: they stand in "Terms" or in the public face. */
    static void said(int promise, String words) {
        sentences++;
        sentence = (promise == 0 ? "terms" : "promise " + promise) + ", '" + words + "'";
    }

    static void is(String what, long got, long want) {
        answers++;
        if (got != want) {
            wrong++;
            System.out.println(sentence + ": " + what + " answered " + got + ", due is " + want);
        }
    }

    static void row(String what, int[] got, int... want) {
        is(what + ": how many", got.length, want.length);
        for (int i = 0; i < Math.min(got.length, want.length); i++) {
            is(what + "[" + i + "]", got[i], want[i]);
        }
    }

    static int[] counts(SeaGames x) {
        int[] row = new int[8];
        for (int i = 0; i < row.length; i++) {
            row[i] = x.count(i);
        }
        return row;
    }

    static void end() {
        System.out.println(wrong == 0 ? answers + " answers by " + sentences + " sentences are as due"
                : wrong + " answers are not as due");
        if (wrong != 0) {
            System.exit(1);
        }
    }
}
