import java.util.function.Supplier;
import java.util.function.ToLongFunction;

/** What the tests of boundary cases share: answers that are due, and calls behind which nothing may have changed. */
final class Edge {
    private static final int FINDINGS = 7;

    private static String test = "";
    private static int asked;
    private static int wrong;

    private Edge() {
    }

    static void begin(String name) {
        test = name;
    }

    static int asked() {
        return asked;
    }

    static int wrong() {
        return wrong;
    }

    static void due(String what, long got, long want) {
        asked++;
        if (got != want) {
            wrong++;
            System.out.println(test + ": " + what + " answered " + got + ", due is " + want);
        }
    }

    static void holds(String what, boolean isSo) {
        due("'" + what + "' (1: it holds)", isSo ? 1 : 0, 1);
    }

    /** The nearest values outside of a range, one that a cast to 16 bits would bring back into it, the ends of int. */
    static int[] outside(int least, int most) {
        return new int[] {least - 1, most + 1, least + (1 << 16), Integer.MIN_VALUE, Integer.MAX_VALUE};
    }

    /** A new plain to which texts come. */
    static CrowLikeness plain(String... texts) {
        CrowLikeness x = new CrowLikeness();
        for (String text : texts) {
            holds(text, Check.plainOf(x, text) > 0);
        }
        return x;
    }

    /** A plain without wheat to which texts come. */
    static CrowLikeness bare(String... texts) {
        CrowLikeness x = plain("wheat 0 0 to 47");
        for (String text : texts) {
            holds(text, Check.plainOf(x, text) > 0);
        }
        return x;
    }

    /** A plain at a day, on which nothing is eaten before. */
    static CrowLikeness atDay(int day) {
        CrowLikeness x = new CrowLikeness();
        x.crows(0);
        for (int left = day; left > 0; left -= 60) {
            x.days(Math.min(60, left));
        }
        x.crows(3);
        return x;
    }

    /** Some of all that can be changed: an image of another plain, sheets of all widths, a text not yet read. */
    static CrowLikeness rich() {
        CrowLikeness x = plain("sitter temper 20; likeness 0 at 12; crows 5");
        x.image();
        Check.plainOf(x, "lady temper 16 fee 7; stranger; likeness 1 at 30; likeness 2 at 5; wheat 8 40 to 15");
        x.days(2);
        x.likeness(0, 14);
        x.sheet(0, 8, 3);
        x.write(0, 1, 77);
        x.sheet(1, 16, 2);
        x.write(1, 1, 480);
        x.sheet(2, 64, 3);
        x.write(2, 2, Long.MIN_VALUE);
        Check.feedText(x, "crows 7");
        return x;
    }

    /** All that calls can tell of an object; what it tells last it has to use up. */
    static String observe(CrowLikeness x) {
        StringBuilder b = new StringBuilder(Check.stateOf(x));
        b.append(" tape ").append(x.count(1));
        for (int s = 0; s < 4; s++) {
            b.append(" sheet").append(numbersOf(x, s));
        }
        b.append(" plain ").append(x.plain()).append(' ').append(Check.stateOf(x));
        b.append(" undo ").append(x.undo()).append(' ').append(Check.stateOf(x));
        b.append(" tear ").append(x.tear());
        return b.toString();
    }

    /** Each number, and what is left there of one that is too long for 8 and for 16 bits. */
    private static String numbersOf(CrowLikeness x, int s) {
        StringBuilder b = new StringBuilder();
        for (int i = 0; i <= 40; i++) {
            long was = x.write(s, i, 0x0123456789abcdefL);
            b.append(' ').append(was);
            if (was == Check.BEYOND || was == Check.MISSING) {
                return b.toString();
            }
            b.append('/').append(x.write(s, i, was));
        }
        return b.toString();
    }

    static void refuses(String call, ToLongFunction<CrowLikeness> act, int finding) {
        refuses(Edge::rich, call, act, finding);
    }

    /** The call answers a finding, which is counted once, and all else is as on a twin that was not asked. */
    static void refuses(Supplier<CrowLikeness> made, String call, ToLongFunction<CrowLikeness> act, int finding) {
        CrowLikeness x = made.get();
        CrowLikeness twin = made.get();
        due(call, act.applyAsLong(x), finding);
        same(call, x, twin, finding);
    }

    static void asks(String call, ToLongFunction<CrowLikeness> act, long want) {
        asks(Edge::rich, call, act, want);
    }

    /** The call answers, and all is as on a twin that was not asked. */
    static void asks(Supplier<CrowLikeness> made, String call, ToLongFunction<CrowLikeness> act, long want) {
        CrowLikeness x = made.get();
        CrowLikeness twin = made.get();
        due(call, act.applyAsLong(x), want);
        same(call, x, twin, 0);
    }

    /** The call answers no finding, whatever it answers, and changes nothing where some of all is there. */
    static void leaves(String call, ToLongFunction<CrowLikeness> act) {
        CrowLikeness x = rich();
        holds(call + " answers", act.applyAsLong(x) > Check.SIZE + FINDINGS);
        same(call, x, rich(), 0);
    }

    private static void same(String call, CrowLikeness x, CrowLikeness twin, int finding) {
        for (int which = 0; which < FINDINGS; which++) {
            int more = finding == Check.BEYOND - which ? 1 : 0;
            due("status(" + which + ") behind " + call, x.status(which), twin.status(which) + more);
        }
        String is = observe(x);
        String was = observe(twin);
        holds("nothing changes by " + call, is.equals(was));
    }
}
