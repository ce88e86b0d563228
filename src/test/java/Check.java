/** Counts the answers that are not as due, and ends a test with exit code 1 if there was one. */
final class Check {
    static final int BEYOND = -1000000001;
    static final int FULL = -1000000002;
    static final int KIND = -1000000003;
    static final int NONE = -1000000004;
    static final int STATE = -1000000005;
    static final int MISSING = -1000000006;
    static final int SIZE = -1000000007;

    private int asked;
    private int wrong;

    void due(String call, long got, long want) {
        asked++;
        if (got != want) {
            wrong++;
            System.out.println(call + " answered " + got + ", due is " + want);
        }
    }

    void holds(String what, boolean isSo) {
        asked++;
        if (!isSo) {
            wrong++;
            System.out.println("does not hold: " + what);
        }
    }

    /** Feeds a whole text to the tape, as many bytes at a time as go. */
    static void feedText(CrowLikeness x, String text) {
        if (text.length() > 120) {
            throw new IllegalArgumentException("no tape holds all of: " + text);
        }
        for (int i = 0; i < text.length(); i += 4) {
            int n = Math.min(4, text.length() - i);
            int bytes = 0;
            for (int k = 0; k < n; k++) {
                bytes = bytes << 8 | text.charAt(i + k) & 255;
            }
            x.feed(bytes, n);
        }
    }

    static int plainOf(CrowLikeness x, String text) {
        feedText(x, text);
        return x.plain();
    }

    /** All that section 1 tells, read back through the calls, for comparing what was with what is. */
    static String stateOf(CrowLikeness x) {
        StringBuilder b = new StringBuilder();
        b.append("day ").append(x.now(0)).append(" crows ").append(x.now(1)).append(" wheat");
        for (int c = 0; c < 48; c++) {
            b.append(' ').append(x.cell(c, 0));
        }
        for (int s = 0; s < x.count(0); s++) {
            b.append(" sitter");
            for (int what = 0; what < 4; what++) {
                b.append(' ').append(x.of(s, what));
            }
        }
        for (int l = 0; l < x.count(2); l++) {
            b.append(" likeness");
            for (int what = 0; what < 3; what++) {
                b.append(' ').append(x.told(l, what));
            }
        }
        return b.toString();
    }

    void end(String name) {
        System.out.println(name + ": " + (asked - wrong) + " of " + asked + " as due");
        if (wrong != 0) {
            System.exit(1);
        }
    }
}
