/** What the tests share: answers that are due, and texts put on the tape. */
final class Check {
    private int right = 0;
    private int wrong = 0;
    private String about = "";

    void about(String what) {
        about = what;
    }

    void due(String call, long got, long want) {
        if (got == want) {
            right++;
            return;
        }
        wrong++;
        System.out.println(about + ": " + call + " answered " + got + ", due is " + want);
    }

    /** Two rows of answers, the same one by one. */
    void dueRow(String call, long[] got, long[] want) {
        if (java.util.Arrays.equals(got, want)) {
            right++;
            return;
        }
        int at = java.util.Arrays.mismatch(got, want);
        wrong++;
        System.out.println(about + ": " + call + ": the rows part at " + at);
    }

    /** Prints what came out; ends with exit code 1 if an answer was wrong. */
    void end(String test) {
        System.out.println(test + ": " + right + " answers as due, " + wrong + " not");
        if (wrong != 0 || right == 0) System.exit(1);
    }

    /** A text comes on the tape, eight bytes at a time. */
    static void feed(SluiceCards x, String text) {
        for (int from = 0; from < text.length(); from += 8) {
            int till = Math.min(text.length(), from + 8);
            x.feed(word(text, from, till), till - from);
        }
    }

    static long word(String text, int from, int till) {
        long w = 0;
        for (int k = from; k < till; k++) w = w << 8 | text.charAt(k);
        return w;
    }

    static String times(String text, int n) {
        StringBuilder b = new StringBuilder();
        for (int k = 0; k < n; k++) b.append(text);
        return b.toString();
    }

    static int river(SluiceCards x, String text) {
        feed(x, text);
        return x.river();
    }

    static int card(SluiceCards x, int kind, int v, String text) {
        feed(x, text);
        return x.card(kind, v);
    }
}
