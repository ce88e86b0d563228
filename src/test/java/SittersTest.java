/** Promises 5 to 13: sitter, of, set, turn, as, likeness, told, place, scares. */
public final class SittersTest {
    private static final int[] EXTREMES = {-1, Integer.MIN_VALUE, Integer.MAX_VALUE};

    private static final Check CHECK = new Check();

    public static void main(String[] args) {
        sitter();
        of();
        set();
        turn();
        as();
        likeness();
        told();
        fades();
        place();
        scares();
        CHECK.end("SittersTest");
    }

    /** One sitter of each kind, by its number, with a temper. */
    private static CrowLikeness oneOfEach(int temper) {
        CrowLikeness x = new CrowLikeness();
        for (int k = 0; k < 6; k++) {
            x.sitter(k);
            x.set(k, 1, temper);
        }
        return x;
    }

    private static void sitter() {
        CrowLikeness x = new CrowLikeness();
        for (int kind : new int[] {-1, 6, Integer.MIN_VALUE, Integer.MAX_VALUE}) {
            CHECK.due("sitter(" + kind + ")", x.sitter(kind), Check.BEYOND);
        }
        for (int s = 0; s < 6; s++) {
            CHECK.due("sitter " + s, x.sitter(5 - s), s);
            CHECK.due("its kind", x.of(s, 0), 5 - s);
        }
        CHECK.due("a 7th", x.sitter(0), Check.FULL);
        CHECK.due("a 7th of no kind", x.sitter(6), Check.BEYOND);
        CHECK.due("count(0)", x.count(0), 6);
        CHECK.due("status(0)", x.status(0), 5);
        CHECK.due("status(1)", x.status(1), 1);
    }

    private static void of() {
        CrowLikeness x = new CrowLikeness();
        CHECK.due("of no sitter", x.of(0, 0), Check.BEYOND);
        x.sitter(3);
        x.crows(0);
        x.days(7);
        x.sitter(1);
        int[] first = {3, 10, 5, 0, 0, 0};
        int[] second = {1, 10, 5, 7, 0, 0};
        for (int what = 0; what < 6; what++) {
            CHECK.due("of(0, " + what + ")", x.of(0, what), first[what]);
            CHECK.due("of(1, " + what + ")", x.of(1, what), second[what]);
        }
        x.likeness(0, 0);
        x.likeness(0, 7);
        x.likeness(1, 1);
        x.likeness(0, 40);
        CHECK.due("of(0, 4)", x.of(0, 4), 3);
        CHECK.due("a row and a column meet", x.of(0, 5), 2);
        CHECK.due("of(1, 4)", x.of(1, 4), 1);
        CHECK.due("others do not meet", x.of(1, 5), 0);
        x.place(1, 0, 47);
        CHECK.due("one column and the last row", x.of(0, 5), 2);
        x.place(1, 0, 17);
        CHECK.due("only a column is left", x.of(0, 5), 1);
        x.place(1, 0, 0);
        CHECK.due("three in one column, two in one cell", x.of(0, 5), 3);
        CHECK.due("of(2, 0)", x.of(2, 0), Check.BEYOND);
        CHECK.due("of(0, 6)", x.of(0, 6), Check.BEYOND);
        for (int v : EXTREMES) {
            CHECK.due("of(" + v + ", 0)", x.of(v, 0), Check.BEYOND);
            CHECK.due("of(0, " + v + ")", x.of(0, v), Check.BEYOND);
        }
        CHECK.due("status(0)", x.status(0), 9);
    }

    private static void set() {
        CrowLikeness x = new CrowLikeness();
        CHECK.due("set of no sitter", x.set(0, 1, 5), Check.BEYOND);
        x.sitter(0);
        CHECK.due("set(0, 1, 30)", x.set(0, 1, 30), 10);
        CHECK.due("set(0, 1, 0)", x.set(0, 1, 0), 30);
        CHECK.due("set(0, 2, 99)", x.set(0, 2, 99), 5);
        CHECK.due("set(0, 2, 0)", x.set(0, 2, 0), 99);
        CHECK.due("set(0, 2, 31)", x.set(0, 2, 31), 0);
        String before = Check.stateOf(x);
        CHECK.due("set(0, 1, 31)", x.set(0, 1, 31), Check.BEYOND);
        CHECK.due("set(0, 2, 100)", x.set(0, 2, 100), Check.BEYOND);
        CHECK.due("set(0, 0, 1)", x.set(0, 0, 1), Check.BEYOND);
        CHECK.due("set(0, 3, 1)", x.set(0, 3, 1), Check.BEYOND);
        CHECK.due("set(1, 1, 1)", x.set(1, 1, 1), Check.BEYOND);
        for (int v : EXTREMES) {
            CHECK.due("set(" + v + ", 1, 1)", x.set(v, 1, 1), Check.BEYOND);
            CHECK.due("set(0, " + v + ", 1)", x.set(0, v, 1), Check.BEYOND);
            CHECK.due("set(0, 1, " + v + ")", x.set(0, 1, v), Check.BEYOND);
            CHECK.due("set(0, 2, " + v + ")", x.set(0, 2, v), Check.BEYOND);
        }
        CHECK.holds("a finding of set changes nothing", before.equals(Check.stateOf(x)));
        CHECK.due("status(0)", x.status(0), 18);
    }

    private static void turn() {
        CrowLikeness x = new CrowLikeness();
        CHECK.due("turn of no sitter", x.turn(0, 1), Check.BEYOND);
        x.sitter(2);
        x.likeness(0, 0);
        x.set(0, 1, 20);
        x.set(0, 2, 8);
        CHECK.due("turn(0, 5)", x.turn(0, 5), 2);
        CHECK.due("turn(0, 5) again", x.turn(0, 5), 5);
        CHECK.due("it counts as the new kind", x.told(0, 4), 1040);
        CHECK.due("turn(0, 0)", x.turn(0, 0), 5);
        CHECK.due("temper stays", x.of(0, 1), 20);
        CHECK.due("fee stays", x.of(0, 2), 8);
        CHECK.due("turn(0, 6)", x.turn(0, 6), Check.BEYOND);
        CHECK.due("turn(1, 0)", x.turn(1, 0), Check.BEYOND);
        for (int v : EXTREMES) {
            CHECK.due("turn(" + v + ", 0)", x.turn(v, 0), Check.BEYOND);
            CHECK.due("turn(0, " + v + ")", x.turn(0, v), Check.BEYOND);
        }
        CHECK.due("of(0, 0)", x.of(0, 0), 0);
        CHECK.due("status(0)", x.status(0), 9);
    }

    private static void as() {
        CrowLikeness x = oneOfEach(10);
        boolean[][] isUnder = {
            {true, false, false, false, false, false},
            {true, true, false, false, false, false},
            {true, false, true, false, false, false},
            {true, false, false, true, false, false},
            {true, false, true, false, true, false},
            {true, false, false, true, false, true},
        };
        for (int s = 0; s < 6; s++) {
            x.set(s, 1, 11 + s);
            for (int kind = 0; kind < 6; kind++) {
                CHECK.due("as(" + s + ", " + kind + ")", x.as(s, kind), isUnder[s][kind] ? 11 + s : Check.KIND);
            }
        }
        CHECK.due("status(2)", x.status(2), 23);
        CHECK.due("as(6, 0)", x.as(6, 0), Check.BEYOND);
        CHECK.due("as(0, 6)", x.as(0, 6), Check.BEYOND);
        for (int v : EXTREMES) {
            CHECK.due("as(" + v + ", 0)", x.as(v, 0), Check.BEYOND);
            CHECK.due("as(0, " + v + ")", x.as(0, v), Check.BEYOND);
        }
        CHECK.due("status(0)", x.status(0), 8);
    }

    private static void likeness() {
        CrowLikeness x = new CrowLikeness();
        CHECK.due("likeness of no sitter", x.likeness(0, 0), Check.BEYOND);
        x.sitter(0);
        for (int l = 0; l < 8; l++) {
            CHECK.due("likeness " + l, x.likeness(0, 47 - l), l);
            CHECK.due("at", x.told(l, 0), 47 - l);
        }
        CHECK.due("a 9th", x.likeness(0, 0), Check.FULL);
        CHECK.due("a 9th of nobody", x.likeness(1, 0), Check.BEYOND);
        CHECK.due("a 9th nowhere", x.likeness(0, 48), Check.BEYOND);
        for (int v : EXTREMES) {
            CHECK.due("likeness(" + v + ", 0)", x.likeness(v, 0), Check.BEYOND);
            CHECK.due("likeness(0, " + v + ")", x.likeness(0, v), Check.BEYOND);
        }
        CHECK.due("count(2)", x.count(2), 8);
        CHECK.due("status(0)", x.status(0), 9);
        CHECK.due("status(1)", x.status(1), 1);
    }

    private static void told() {
        CrowLikeness x = new CrowLikeness();
        CHECK.due("told of none", x.told(0, 0), Check.BEYOND);
        x.sitter(0);
        x.sitter(5);
        x.set(1, 1, 12);
        x.likeness(1, 30);
        x.crows(0);
        x.days(2);
        int[] due = {30, 1, 2, 1012, 1024};
        for (int what = 0; what < 5; what++) {
            CHECK.due("told(0, " + what + ")", x.told(0, what), due[what]);
        }
        CHECK.due("told(0, 5)", x.told(0, 5), Check.BEYOND);
        CHECK.due("told(1, 0)", x.told(1, 0), Check.BEYOND);
        for (int v : EXTREMES) {
            CHECK.due("told(" + v + ", 0)", x.told(v, 0), Check.BEYOND);
            CHECK.due("told(0, " + v + ")", x.told(0, v), Check.BEYOND);
        }
        CHECK.due("status(0)", x.status(0), 9);
    }

    private static void fades() {
        CrowLikeness x = oneOfEach(21);
        for (int k = 0; k < 6; k++) {
            x.likeness(k, 8 * k);
        }
        int[] ages = {0, 3, 4, 6, 7, 8, 83, 84, 364, 365, 9999};
        int[][] due = {
            {21, 21, 20, 20, 20, 19, 1, 0, 0, 0, 0},
            {26, 26, 25, 25, 25, 24, 6, 5, 5, 5, 5},
            {10, 10, 10, 10, 10, 9, 0, 0, 0, 0, 0},
            {21, 21, 21, 21, 21, 21, 21, 21, 21, 0, 0},
            {-10, -10, -10, -10, -10, -9, 0, 0, 0, 0, 0},
            {21, 21, 21, 21, 0, 0, 0, 0, 0, 0, 0},
        };
        for (int k = 0; k < 6; k++) {
            for (int a = 0; a < ages.length; a++) {
                x.place(k, 2, ages[a]);
                CHECK.due("kind " + k + " at age " + ages[a], x.told(k, 3), 1000 + due[k][a]);
            }
        }
    }

    private static void place() {
        CrowLikeness x = new CrowLikeness();
        CHECK.due("place of none", x.place(0, 0, 0), Check.BEYOND);
        x.sitter(0);
        x.sitter(0);
        x.likeness(0, 3);
        CHECK.due("place(0, 0, 47)", x.place(0, 0, 47), 3);
        CHECK.due("place(0, 0, 0)", x.place(0, 0, 0), 47);
        CHECK.due("place(0, 1, 1)", x.place(0, 1, 1), 0);
        CHECK.due("place(0, 1, 0)", x.place(0, 1, 0), 1);
        CHECK.due("place(0, 2, 9999)", x.place(0, 2, 9999), 0);
        CHECK.due("place(0, 2, 0)", x.place(0, 2, 0), 9999);
        String before = Check.stateOf(x);
        CHECK.due("place(0, 0, 48)", x.place(0, 0, 48), Check.BEYOND);
        CHECK.due("place(0, 1, 2)", x.place(0, 1, 2), Check.BEYOND);
        CHECK.due("place(0, 2, 10000)", x.place(0, 2, 10000), Check.BEYOND);
        CHECK.due("place(0, 3, 0)", x.place(0, 3, 0), Check.BEYOND);
        CHECK.due("place(1, 0, 0)", x.place(1, 0, 0), Check.BEYOND);
        for (int v : EXTREMES) {
            CHECK.due("place(" + v + ", 0, 0)", x.place(v, 0, 0), Check.BEYOND);
            CHECK.due("place(0, " + v + ", 0)", x.place(0, v, 0), Check.BEYOND);
            for (int what = 0; what < 3; what++) {
                CHECK.due("place(0, " + what + ", " + v + ")", x.place(0, what, v), Check.BEYOND);
            }
        }
        CHECK.holds("a finding of place changes nothing", before.equals(Check.stateOf(x)));
        CHECK.due("status(0)", x.status(0), 21);
    }

    private static void scares() {
        CrowLikeness x = oneOfEach(20);
        for (int k = 0; k < 6; k++) {
            x.likeness(k, 8 * k);
        }
        int[][] due = {
            {20, 17, 14, 11, 8, 5, 2, 0, 0, 0, 0, 0, 0},
            {25, 24, 23, 22, 21, 20, 19, 18, 17, 16, 15, 14, 13},
            {9, 6, 3, 0, 0, 0, 0, 0, 0, 0, 0, 0, 0},
            {20, 17, 14, 11, 8, 5, 2, 0, 0, 0, 0, 0, 0},
            {-10, -8, -6, -4, -2, 0, 0, 0, 0, 0, 0, 0, 0},
            {40, 34, 14, 11, 8, 5, 2, 0, 0, 0, 0, 0, 0},
        };
        for (int k = 0; k < 6; k++) {
            for (int d = 0; d <= 12; d++) {
                CHECK.due("kind " + k + " scares at " + d, x.scares(k, d), 1000 + due[k][d]);
            }
        }
        x.set(1, 1, 0);
        CHECK.due("a bailiff without temper, 5 off", x.scares(1, 5), 1000);
        CHECK.due("and 6 off", x.scares(1, 6), 1000);
        x.place(5, 2, 7);
        CHECK.due("a stranger after a week", x.scares(5, 0), 1000);
        CHECK.due("scares(0, 13)", x.scares(0, 13), Check.BEYOND);
        CHECK.due("scares(6, 0)", x.scares(6, 0), Check.BEYOND);
        for (int v : EXTREMES) {
            CHECK.due("scares(" + v + ", 0)", x.scares(v, 0), Check.BEYOND);
            CHECK.due("scares(0, " + v + ")", x.scares(0, v), Check.BEYOND);
        }
        CHECK.due("status(0)", x.status(0), 8);
    }
}
