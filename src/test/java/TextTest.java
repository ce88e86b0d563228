/** Promises 28 to 30: feed, wipe, plain. */
public final class TextTest {
    private static final Check CHECK = new Check();

    public static void main(String[] args) {
        feed();
        wipe();
        items();
        itemsComeInTheirOrder();
        blanksAndLongestTokens();
        onlyWhatTheTapeHas();
        faultsOfForm();
        faultsOfNumbers();
        faultsOfRoom();
        aFaultChangesNothing();
        CHECK.end("TextTest");
    }

    private static void feed() {
        CrowLikeness x = new CrowLikeness();
        for (int n : new int[] {0, 5, -1, Integer.MIN_VALUE, Integer.MAX_VALUE}) {
            CHECK.due("feed(0, " + n + ")", x.feed(0, n), Check.BEYOND);
        }
        CHECK.due("count(1)", x.count(1), 0);
        CHECK.due("the highest byte first", x.feed(0x63726f77, 4), 4);
        CHECK.due("the lowest bytes alone", x.feed(0x7a7a7320, 2), 6);
        CHECK.due("one byte", x.feed(0x7a7a7a39, 1), 7);
        CHECK.due("crows 9", x.plain(), 1);
        CHECK.due("now(1)", x.now(1), 9);
        for (int i = 1; i <= 39; i++) {
            CHECK.due("three more", x.feed(-1, 3), 3 * i);
        }
        CHECK.due("118", x.feed(-1, 1), 118);
        CHECK.due("3 are too many", x.feed(-1, 3), Check.FULL);
        CHECK.due("beyond comes first", x.feed(-1, 5), Check.BEYOND);
        CHECK.due("2 just go", x.feed(-1, 2), 120);
        CHECK.due("1 is too many", x.feed(-1, 1), Check.FULL);
        CHECK.due("count(1)", x.count(1), 120);
        CHECK.due("status(0)", x.status(0), 6);
        CHECK.due("status(1)", x.status(1), 2);
    }

    private static void wipe() {
        CrowLikeness x = new CrowLikeness();
        CHECK.due("wipe() of an empty one", x.wipe(), 0);
        x.feed(0, 3);
        CHECK.due("wipe()", x.wipe(), 3);
        CHECK.due("count(1)", x.count(1), 0);
        CHECK.due("crows 4 from the start", Check.plainOf(x, "crows 4"), 1);
    }

    private static void items() {
        CrowLikeness x = new CrowLikeness();
        x.days(2);
        CHECK.due("all kinds", Check.plainOf(x, "sitter;bailiff;laughed;dead;lady;stranger"), 6);
        for (int s = 0; s < 6; s++) {
            CHECK.due("kind", x.of(s, 0), s);
            CHECK.due("temper", x.of(s, 1), 10);
            CHECK.due("fee", x.of(s, 2), 5);
            CHECK.due("since", x.of(s, 3), 2);
        }
        CHECK.due("the tape is empty", x.count(1), 0);
        CrowLikeness y = new CrowLikeness();
        CHECK.due("temper and fee", Check.plainOf(y, "dead temper 30 fee 99;lady temper 0;lady fee 0"), 3);
        CHECK.due("of(0, 1)", y.of(0, 1), 30);
        CHECK.due("of(0, 2)", y.of(0, 2), 99);
        CHECK.due("of(1, 1)", y.of(1, 1), 0);
        CHECK.due("of(1, 2)", y.of(1, 2), 5);
        CHECK.due("of(2, 1)", y.of(2, 1), 10);
        CHECK.due("of(2, 2)", y.of(2, 2), 0);
        CHECK.due("likenesses", Check.plainOf(y, "likeness 2 at 47; likeness 0 at 0"), 2);
        CHECK.due("told(0, 0)", y.told(0, 0), 47);
        CHECK.due("told(0, 1)", y.told(0, 1), 2);
        CHECK.due("told(0, 2)", y.told(0, 2), 0);
        CHECK.due("told(1, 0)", y.told(1, 0), 0);
        CHECK.due("wheat", Check.plainOf(y, "wheat 5 99; wheat 7 0 to 9; wheat 47 1 to 47; crows 20"), 4);
        int[] due = {10, 99, 10, 0, 0, 0, 10};
        for (int i = 0; i < due.length; i++) {
            CHECK.due("cell(" + (4 + i) + ", 0)", y.cell(4 + i, 0), due[i]);
        }
        CHECK.due("cell(47, 0)", y.cell(47, 0), 1);
        CHECK.due("now(1)", y.now(1), 20);
        CHECK.due("status(-1)", y.status(-1), 0);
    }

    private static void itemsComeInTheirOrder() {
        CrowLikeness x = new CrowLikeness();
        CHECK.due("one of one that the text made", Check.plainOf(x, "lady;likeness 0 at 3;dead;likeness 1 at 4"), 4);
        CHECK.due("told(1, 1)", x.told(1, 1), 1);
        CHECK.due("the later one counts", Check.plainOf(x, "crows 1;crows 2;wheat 0 5 to 9;wheat 3 7"), 4);
        CHECK.due("now(1)", x.now(1), 2);
        CHECK.due("cell(2, 0)", x.cell(2, 0), 5);
        CHECK.due("cell(3, 0)", x.cell(3, 0), 7);
        CHECK.due("behind those that are there", Check.plainOf(x, "sitter"), 1);
        CHECK.due("of(2, 0)", x.of(2, 0), 0);
    }

    private static void blanksAndLongestTokens() {
        fault("   crows   7   ;  crows 8 ", 2);
        fault("crows7;crows8", 2);
        fault("wheat3 4to5;dead temper7fee8", 2);
        fault("crows 000000000000000000000000000000007", 1);
        fault("wheat 00 007", 1);
        fault("wheat 12", -1 - 8);
        fault("crowss 7", -1);
        fault("crowsz7", -1);
        fault("crowsa7", -1);
        fault("brows 7", -1);
        fault("crow 7", -1);
        fault("deadlady", -1);
        fault("dead\tlady", -1 - 4);
        fault("crows 7\n", -1 - 7);
        fault("Crows 7", -1);
        fault("crOws 7", -1);
        fault("crows -1", -1 - 6);
        fault("crows 1.", -1 - 7);
        fault("crows " + (char) 255, -1 - 6);
        fault("crows " + (char) 0, -1 - 6);
        fault((char) (' ' + 128) + "crows 1", -1);
        fault("crows:7", -1 - 5);
        fault("crows`7", -1 - 5);
        fault("crows{7", -1 - 5);
        fault("crows/7", -1 - 5);
    }

    private static String full(String text) {
        return " ".repeat(120 - text.length()) + text;
    }

    private static void onlyWhatTheTapeHas() {
        CrowLikeness x = new CrowLikeness();
        Check.feedText(x, "crows 19to;bailiffs");
        x.wipe();
        CHECK.due("what was wiped is gone", Check.plainOf(x, "crows 1"), 1);
        CHECK.due("now(1)", x.now(1), 1);
        CHECK.due("what was read is gone", Check.plainOf(x, "crows"), -1 - 5);
        CHECK.due("a full tape that ends in a number", Check.plainOf(x, full("crows 17")), 1);
        CHECK.due("now(1)", x.now(1), 17);
        CHECK.due("a full tape that ends in a word", Check.plainOf(x, full("dead")), 1);
        CHECK.due("a full tape that ends in a sign", Check.plainOf(x, full("dead;")), -1 - 120);
        CHECK.due("a full tape that ends in no token", Check.plainOf(x, full("dead?")), -1 - 119);
        CHECK.due("a full tape of blanks", Check.plainOf(x, full("")), -1 - 120);
        CHECK.due("a full tape of letters", Check.plainOf(x, "z".repeat(120)), -1);
        CHECK.due("a full tape of digits", Check.plainOf(x, "crows 0" + "9".repeat(113)), -1 - 6);
        CHECK.due("a full tape of zeros", Check.plainOf(x, "crows " + "0".repeat(114)), 1);
        CHECK.due("now(1)", x.now(1), 0);
    }

    /** What plain() answers to a text on a new object with one sitter and one likeness. */
    private static void fault(String text, int due) {
        CrowLikeness x = new CrowLikeness();
        x.sitter(0);
        x.likeness(0, 0);
        CHECK.due("'" + text + "'", Check.plainOf(x, text), due);
        CHECK.due("count(1) after '" + text + "'", x.count(1), 0);
        CHECK.due("status(-1) after '" + text + "'", x.status(-1), 0);
    }

    private static void faultsOfForm() {
        fault("", -1);
        fault("  ", -1 - 2);
        fault(";", -1);
        fault("7", -1);
        fault("temper 3", -1);
        fault("crows", -1 - 5);
        fault("crows  ", -1 - 7);
        fault("crows 3;", -1 - 8);
        fault("crows 3; ", -1 - 9);
        fault("crows 3;;crows 4", -1 - 8);
        fault("crows 3 crows 4", -1 - 8);
        fault("crows 3 4", -1 - 8);
        fault("crows ;", -1 - 6);
        fault("crows to", -1 - 6);
        fault("dead fee 3 temper 4", -1 - 11);
        fault("dead temper 3 temper 4", -1 - 14);
        fault("dead temper 3 fee 4 fee 5", -1 - 20);
        fault("dead temper", -1 - 11);
        fault("dead temper fee 3", -1 - 12);
        fault("dead fee;", -1 - 8);
        fault("dead 3", -1 - 5);
        fault("dead lady", -1 - 5);
        fault("likeness", -1 - 8);
        fault("likeness 0", -1 - 10);
        fault("likeness 0 47", -1 - 11);
        fault("likeness 0 to 47", -1 - 11);
        fault("likeness 0 at", -1 - 13);
        fault("likeness 0 at at", -1 - 14);
        fault("likeness at 3", -1 - 9);
        fault("wheat", -1 - 5);
        fault("wheat 3", -1 - 7);
        fault("wheat 3 to 4", -1 - 8);
        fault("wheat 3;", -1 - 7);
        fault("wheat 3 4 5", -1 - 10);
        fault("wheat 3 4 at 5", -1 - 10);
        fault("wheat 3 4 to", -1 - 12);
        fault("wheat 3 4 to 5 to 6", -1 - 15);
        fault("crows 3 to 4", -1 - 8);
        fault("crows 1;wheat 3 4;x", -1 - 18);
    }

    private static void faultsOfNumbers() {
        fault("crows 20", 1);
        fault("crows 21", -1 - 6);
        fault("crows 999", -1 - 6);
        fault("crows 1000", -1 - 6);
        fault("crows 4294967297", -1 - 6);
        fault("crows 18446744073709551617", -1 - 6);
        fault("dead temper 30", 1);
        fault("dead temper 31", -1 - 12);
        fault("dead fee 99", 1);
        fault("dead fee 100", -1 - 9);
        fault("wheat 47 99", 1);
        fault("wheat 48 9", -1 - 6);
        fault("wheat 0 100", -1 - 8);
        fault("wheat 5 1 to 5", 1);
        fault("wheat 5 1 to 4", -1 - 13);
        fault("wheat 5 1 to 48", -1 - 13);
        fault("likeness 0 at 48", -1 - 14);
        fault("likeness 1 at 4", -1 - 9);
        fault("likeness 1 at 4;dead", -1 - 9);
        fault("dead;likeness 1 at 4", 2);
        fault("dead;likeness 2 at 4", -1 - 14);
        CrowLikeness x = new CrowLikeness();
        CHECK.due("a likeness where no one is", Check.plainOf(x, "likeness 0 at 0"), -1 - 9);
    }

    private static void faultsOfRoom() {
        fault("dead;dead;dead;dead;dead", 5);
        fault("dead;dead;dead;dead;dead;dead", -1 - 25);
        fault("dead;dead;dead;dead;dead; sitter temper 99", -1 - 26);
        CrowLikeness x = new CrowLikeness();
        x.sitter(0);
        CHECK.due("seven likenesses", Check.plainOf(x, "likeness 0 at 0;likeness 0 at 1;likeness 0 at 2;"
            + "likeness 0 at 3;likeness 0 at 4;likeness 0 at 5;likeness 0 at 6"), 7);
        CHECK.due("a 9th", Check.plainOf(x, "likeness 0 at 7; likeness 9 at 8"), -1 - 17);
        CHECK.due("count(2)", x.count(2), 7);
        CHECK.due("an 8th", Check.plainOf(x, "likeness 0 at 7"), 1);
        CHECK.due("a 9th", Check.plainOf(x, "likeness"), -1);
        CHECK.due("count(2)", x.count(2), 8);
    }

    private static void aFaultChangesNothing() {
        CrowLikeness x = new CrowLikeness();
        Check.plainOf(x, "dead temper 3; likeness 0 at 9; crows 2");
        String before = Check.stateOf(x);
        CHECK.due("a fault behind all kinds of items",
            Check.plainOf(x, "lady temper 4 fee 3; likeness 1 at 4; wheat 0 3 to 47; crows 9; wheat 1 2 x"), -1 - 74);
        CHECK.holds("nothing changes", before.equals(Check.stateOf(x)));
        CHECK.due("count(0)", x.count(0), 1);
        CHECK.due("count(2)", x.count(2), 1);
        CHECK.due("count(1)", x.count(1), 0);
        CHECK.due("status(-1)", x.status(-1), 0);
    }
}
