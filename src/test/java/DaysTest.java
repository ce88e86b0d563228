/** Promises 14 to 19: lands, days, now, on, eaten, first. */
public final class DaysTest {
    private static final int[] EXTREMES = {-1, 61, Integer.MIN_VALUE, Integer.MAX_VALUE};

    private static final Check CHECK = new Check();

    public static void main(String[] args) {
        lands();
        days();
        fearIsAsTheDayBegan();
        meetingsCostTemper();
        agesAreHeld();
        lastDay();
        now();
        on();
        eaten();
        first();
        CHECK.end("DaysTest");
    }

    private static CrowLikeness bare() {
        CrowLikeness x = new CrowLikeness();
        Check.plainOf(x, "wheat 0 0 to 47");
        return x;
    }

    private static void lands() {
        CrowLikeness x = bare();
        CHECK.due("lands() without wheat", x.lands(), Check.NONE);
        x.wheat(40, 1);
        CHECK.due("lands()", x.lands(), 40);
        x.wheat(41, 1);
        CHECK.due("of two the least", x.lands(), 40);
        x.wheat(41, 2);
        CHECK.due("where most is", x.lands(), 41);
        x.sitter(3);
        x.likeness(0, 41);
        x.set(0, 1, 19);
        x.wheat(40, 0);
        CHECK.due("a fear of 19 lets in", x.lands(), 41);
        x.set(0, 1, 20);
        CHECK.due("a fear of 20 does not", x.lands(), Check.NONE);
        x.wheat(43, 9);
        x.wheat(0, 1);
        CHECK.due("wheat less fear is below 0 and most", x.lands(), 0);
        x.wheat(0, 0);
        CHECK.due("wheat less fear is -5 and the only one", x.lands(), 43);
        x.sitter(4);
        x.set(1, 1, 30);
        x.likeness(1, 0);
        x.wheat(0, 1);
        x.wheat(43, 30);
        x.place(0, 0, 20);
        CHECK.due("more wheat than what draws", x.lands(), 43);
        x.wheat(43, 15);
        CHECK.due("a lady draws", x.lands(), 0);
        CHECK.due("status(3)", x.status(3), 2);
    }

    private static void days() {
        CrowLikeness x = new CrowLikeness();
        CHECK.due("days(1)", x.days(1), 6);
        CHECK.due("the first cell", x.cell(0, 0), 8);
        CHECK.due("the third cell", x.cell(2, 0), 8);
        CHECK.due("the fourth cell", x.cell(3, 0), 10);
        CHECK.due("days(60)", x.days(60), 360);
        CHECK.due("now(0)", x.now(0), 61);
        CHECK.due("days(60), when it is all eaten", x.days(60), 114);
        CHECK.due("days(60), when nothing is left", x.days(60), 0);
        CHECK.due("now(0)", x.now(0), 181);
        x.wheat(9, 3);
        CHECK.due("what there is", x.days(1), 3);
        CHECK.due("cell(9, 0)", x.cell(9, 0), 0);
        String before = Check.stateOf(x);
        for (int n : EXTREMES) {
            CHECK.due("days(" + n + ")", x.days(n), Check.BEYOND);
        }
        CHECK.due("days(0)", x.days(0), Check.BEYOND);
        CHECK.holds("a finding of days changes nothing", before.equals(Check.stateOf(x)));
        CHECK.due("status(0)", x.status(0), 5);
    }

    private static void fearIsAsTheDayBegan() {
        CrowLikeness x = bare();
        x.wheat(20, 50);
        x.sitter(0);
        x.set(0, 1, 20);
        x.likeness(0, 20);
        CHECK.due("4 days of ages 0 to 3", x.days(4), 0);
        CHECK.due("the age", x.told(0, 2), 4);
        CHECK.due("then it lets in", x.days(1), 6);
    }

    private static void meetingsCostTemper() {
        CrowLikeness x = bare();
        x.wheat(20, 50);
        x.sitter(3);
        x.set(0, 1, 22);
        x.likeness(0, 20);
        x.likeness(0, 23);
        x.likeness(0, 4);
        CHECK.due("two pairs meet", x.of(0, 5), 2);
        CHECK.due("22 and 20 keep off", x.days(2), 0);
        CHECK.due("temper", x.of(0, 1), 18);
        CHECK.due("18 does not", x.days(1), 6);
        CHECK.due("temper", x.of(0, 1), 16);
        x.set(0, 1, 1);
        x.days(1);
        CHECK.due("temper is 0 at least", x.of(0, 1), 0);
        x.sitter(3);
        x.likeness(1, 4);
        x.days(1);
        CHECK.due("another's likenesses do not count", x.of(1, 1), 10);
    }

    private static void agesAreHeld() {
        CrowLikeness x = new CrowLikeness();
        x.sitter(1);
        x.likeness(0, 0);
        x.place(0, 2, 9998);
        x.days(1);
        CHECK.due("9999", x.told(0, 2), 9999);
        x.days(1);
        CHECK.due("9999 still", x.told(0, 2), 9999);
    }

    private static void lastDay() {
        CrowLikeness x = new CrowLikeness();
        x.crows(0);
        for (int i = 0; i < 166; i++) {
            x.days(60);
        }
        CHECK.due("now(0)", x.now(0), 9960);
        CHECK.due("40 more are too many", x.days(40), Check.STATE);
        CHECK.due("beyond comes first", x.days(61), Check.BEYOND);
        CHECK.due("39 more", x.days(39), 0);
        CHECK.due("now(0)", x.now(0), 9999);
        CHECK.due("days(1)", x.days(1), Check.STATE);
        x.sitter(0);
        CHECK.due("since", x.of(0, 3), 9999);
        x.crows(1);
        CHECK.due("eaten(60) asks no day", x.eaten(60), 120);
        CHECK.due("first(0) asks no day", x.first(0), 1);
        CHECK.due("now(0)", x.now(0), 9999);
        CHECK.due("status(4)", x.status(4), 2);
        CHECK.due("status(0)", x.status(0), 1);
    }

    private static void now() {
        CrowLikeness x = new CrowLikeness();
        int[] first = {0, 3, 480, 0, 0, 0};
        for (int what = 0; what < 6; what++) {
            CHECK.due("new: now(" + what + ")", x.now(what), first[what]);
        }
        Check.plainOf(x, "dead temper 20 fee 7; dead temper 26 fee 50; bailiff fee 30; wheat 0 1 to 7");
        Check.plainOf(x, "likeness 0 at 0; likeness 1 at 47; likeness 1 at 40; crows 1");
        x.days(1);
        x.set(1, 1, 26);
        int[] then = {1, 1, 406, 57, 19, 2};
        for (int what = 0; what < 6; what++) {
            CHECK.due("now(" + what + ")", x.now(what), then[what]);
        }
        x.set(1, 1, 0);
        CHECK.due("now(4) with one temper gone", x.now(4), 1);
        x.likeness(0, 7);
        CHECK.due("now(4) at two corners", x.now(4), 2);
        CHECK.due("now(5) of both", x.now(5), 3);
        for (int what : new int[] {-1, 6, Integer.MIN_VALUE, Integer.MAX_VALUE}) {
            CHECK.due("now(" + what + ")", x.now(what), Check.BEYOND);
        }
        CHECK.due("status(0)", x.status(0), 4);
    }

    private static void on() {
        CrowLikeness x = new CrowLikeness();
        String before = Check.stateOf(x);
        CHECK.due("on(0, 0)", x.on(0, 0), 10);
        CHECK.due("on(0, 1)", x.on(0, 1), 8);
        CHECK.due("on(3, 1)", x.on(3, 1), 10);
        CHECK.due("on(3, 2)", x.on(3, 2), 8);
        CHECK.due("on(47, 16)", x.on(47, 16), 8);
        CHECK.due("on(47, 60)", x.on(47, 60), 4);
        CHECK.due("on(0, 60)", x.on(0, 60), 2);
        CHECK.holds("nothing changes", before.equals(Check.stateOf(x)));
        for (int n : EXTREMES) {
            CHECK.due("on(0, " + n + ")", x.on(0, n), Check.BEYOND);
            CHECK.due("on(" + n + ", 1)", x.on(n, 1), Check.BEYOND);
        }
        CHECK.due("on(48, 0)", x.on(48, 0), Check.BEYOND);
        CHECK.due("status(0)", x.status(0), 9);
    }

    private static void eaten() {
        CrowLikeness x = new CrowLikeness();
        x.sitter(0);
        x.likeness(0, 0);
        x.likeness(0, 0);
        String before = Check.stateOf(x);
        CHECK.due("eaten(0)", x.eaten(0), 0);
        CHECK.due("eaten(1)", x.eaten(1), 6);
        CHECK.due("eaten(60)", x.eaten(60), 360);
        CHECK.holds("nothing changes", before.equals(Check.stateOf(x)));
        for (int n : EXTREMES) {
            CHECK.due("eaten(" + n + ")", x.eaten(n), Check.BEYOND);
        }
        CHECK.due("status(0)", x.status(0), 4);
    }

    private static void first() {
        CrowLikeness x = new CrowLikeness();
        CHECK.due("first(0)", x.first(0), 1);
        CHECK.due("first(5)", x.first(5), 2);
        CHECK.due("first(47)", x.first(47), 16);
        x.crows(1);
        CHECK.due("first(47) on the 48th", x.first(47), 48);
        x.wheat(47, 9);
        CHECK.due("first(47), once 8 is everywhere else", x.first(47), 48);
        x.wheat(47, 8);
        CHECK.due("first(47) is beyond 60", x.first(47), Check.NONE);
        x.wheat(47, 10);
        x.wheat(13, 8);
        CHECK.due("first(13) would be the 61st", x.first(13), Check.NONE);
        x.wheat(13, 10);
        x.wheat(12, 8);
        CHECK.due("first(12) is the 60th", x.first(12), 60);
        x.wheat(12, 10);
        x.wheat(3, 0);
        CHECK.due("nothing can be less", x.first(3), Check.NONE);
        for (int cell : new int[] {-1, 48, Integer.MIN_VALUE, Integer.MAX_VALUE}) {
            CHECK.due("first(" + cell + ")", x.first(cell), Check.BEYOND);
        }
        x.wheat(3, 10);
        Check.plainOf(x, "wheat 0 0 to 47; wheat 20 9; dead temper 26; likeness 0 at 20; likeness 0 at 23");
        CHECK.due("26, 25, .. 20, and then 19", x.first(20), 8);
        CHECK.due("now(0)", x.now(0), 0);
        CHECK.due("status(0)", x.status(0), 4);
        CHECK.due("status(3)", x.status(3), 3);
    }
}
