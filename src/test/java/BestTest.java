/** Promises 20 to 27: spot, whose, kind, temper, keep, worth, apart, swap. */
public final class BestTest {
    private static final Check CHECK = new Check();

    public static void main(String[] args) {
        spot();
        whose();
        kind();
        temper();
        keep();
        keepLeavesTheOthersOut();
        worth();
        apart();
        swap();
        allThatCanBe();
        CHECK.end("BestTest");
    }

    /** Wheat of 10 at cell 20 alone, and what a text tells beside. */
    private static CrowLikeness oneField(String text) {
        CrowLikeness x = new CrowLikeness();
        Check.plainOf(x, "wheat 0 0 to 47; wheat 20 10");
        CHECK.holds(text, Check.plainOf(x, text) > 0);
        return x;
    }

    private static void spot() {
        CrowLikeness x = oneField("sitter temper 22; likeness 0 at 3");
        String before = Check.stateOf(x);
        CHECK.due("only at the wheat itself", x.spot(0, 1), 20);
        x.set(0, 1, 23);
        CHECK.due("one off will do for 4 days", x.spot(0, 4), 12);
        CHECK.due("and not for 5", x.spot(0, 5), 20);
        x.set(0, 1, 0);
        CHECK.due("it is all one", x.spot(0, 20), 0);
        x.set(0, 1, 22);
        CHECK.holds("nothing changes", before.equals(Check.stateOf(x)));
        x.place(0, 2, 12);
        CHECK.due("as old as it is it keeps nothing off", x.spot(0, 1), 0);
        for (int n : new int[] {0, 21, -1, Integer.MIN_VALUE, Integer.MAX_VALUE}) {
            CHECK.due("spot(0, " + n + ")", x.spot(0, n), Check.BEYOND);
        }
        for (int l : new int[] {1, -1, Integer.MIN_VALUE, Integer.MAX_VALUE}) {
            CHECK.due("spot(" + l + ", 1)", x.spot(l, 1), Check.BEYOND);
        }
        CHECK.due("status(0)", x.status(0), 9);
    }

    private static void whose() {
        CrowLikeness x = oneField("dead; dead temper 30; dead temper 30; likeness 0 at 20");
        String before = Check.stateOf(x);
        CHECK.due("whose(0, 1)", x.whose(0, 1), 1);
        CHECK.due("whose(0, 20)", x.whose(0, 20), 1);
        CHECK.holds("nothing changes", before.equals(Check.stateOf(x)));
        x.turn(1, 5);
        CHECK.due("a stranger does for a week", x.whose(0, 7), 1);
        CHECK.due("and not for 8 days", x.whose(0, 8), 2);
        x.wheat(20, 0);
        CHECK.due("it is all one", x.whose(0, 1), 0);
        for (int n : new int[] {0, 21, -1, Integer.MIN_VALUE, Integer.MAX_VALUE}) {
            CHECK.due("whose(0, " + n + ")", x.whose(0, n), Check.BEYOND);
        }
        for (int l : new int[] {1, -1, Integer.MIN_VALUE, Integer.MAX_VALUE}) {
            CHECK.due("whose(" + l + ", 1)", x.whose(l, 1), Check.BEYOND);
        }
        CHECK.due("status(0)", x.status(0), 9);
    }

    private static void kind() {
        CrowLikeness x = oneField("sitter temper 17; likeness 0 at 20; sitter");
        String before = Check.stateOf(x);
        CHECK.due("a bailiff, ahead of a stranger", x.kind(0, 1), 1);
        x.set(0, 1, 14);
        CHECK.due("a stranger", x.kind(0, 7), 5);
        x.set(0, 1, 20);
        CHECK.due("a sitter", x.kind(0, 4), 0);
        x.place(0, 2, 20);
        CHECK.due("a bailiff, up to an age of 23", x.kind(0, 4), 1);
        CHECK.due("the dead, for longer", x.kind(0, 5), 3);
        CHECK.due("without a likeness it is all one", x.kind(1, 5), 0);
        x.place(0, 2, 0);
        x.set(0, 1, 17);
        CHECK.holds("nothing changes", before.equals(Check.stateOf(x)));
        for (int n : new int[] {0, 21, -1, Integer.MIN_VALUE, Integer.MAX_VALUE}) {
            CHECK.due("kind(0, " + n + ")", x.kind(0, n), Check.BEYOND);
        }
        for (int s : new int[] {2, -1, Integer.MIN_VALUE, Integer.MAX_VALUE}) {
            CHECK.due("kind(" + s + ", 1)", x.kind(s, 1), Check.BEYOND);
        }
        CHECK.due("status(0)", x.status(0), 9);
    }

    private static void temper() {
        CrowLikeness x = oneField("sitter; likeness 0 at 20; sitter");
        String before = Check.stateOf(x);
        CHECK.due("temper(0, 4)", x.temper(0, 4), 20);
        CHECK.due("temper(0, 5)", x.temper(0, 5), 21);
        CHECK.due("temper(0, 20)", x.temper(0, 20), 24);
        CHECK.due("without a likeness", x.temper(1, 20), 0);
        CHECK.holds("nothing changes", before.equals(Check.stateOf(x)));
        x.turn(0, 2);
        CHECK.due("one laughed at keeps nothing off", x.temper(0, 1), 0);
        x.turn(0, 5);
        x.wheat(20, 99);
        CHECK.due("a stranger for a week", x.temper(0, 7), 10);
        x.place(0, 0, 22);
        x.turn(0, 0);
        CHECK.due("two off, 26", x.temper(0, 1), 26);
        x.place(0, 0, 24);
        CHECK.due("five off, none will do", x.temper(0, 1), 0);
        x.place(0, 0, 23);
        CHECK.due("three off, 29", x.temper(0, 4), 29);
        CHECK.due("three off, the most there is", x.temper(0, 5), 30);
        CHECK.due("and no more than that", x.temper(0, 9), 30);
        x.place(0, 0, 20);
        x.wheat(20, 1);
        CHECK.due("for one grain", x.temper(0, 1), 20);
        for (int n : new int[] {0, 21, -1, Integer.MIN_VALUE, Integer.MAX_VALUE}) {
            CHECK.due("temper(0, " + n + ")", x.temper(0, n), Check.BEYOND);
        }
        for (int s : new int[] {2, -1, Integer.MIN_VALUE, Integer.MAX_VALUE}) {
            CHECK.due("temper(" + s + ", 1)", x.temper(s, 1), Check.BEYOND);
        }
        CHECK.due("status(0)", x.status(0), 9);
    }

    private static void keep() {
        CHECK.due("keep(1) without any", new CrowLikeness().keep(1), 0);
        CrowLikeness x = oneField("dead temper 20; dead temper 10; dead temper 10; likeness 0 at 47");
        CHECK.due("one that is of no use", x.keep(10), 0);
        Check.plainOf(x, "likeness 1 at 20; likeness 2 at 20");
        String before = Check.stateOf(x);
        CHECK.due("two together", x.keep(10), 6);
        Check.plainOf(x, "likeness 0 at 20; likeness 0 at 20");
        x.place(4, 1, 1);
        x.place(4, 0, 3);
        CHECK.due("one instead of two", x.keep(1), 8);
        x.place(0, 0, 20);
        CHECK.due("of two alike the least", x.keep(1), 1);
        x.wheat(20, 0);
        CHECK.due("where there is nothing to eat", x.keep(10), 0);
        CHECK.holds("something did change", !before.equals(Check.stateOf(x)));
        before = Check.stateOf(x);
        for (int n : new int[] {0, 11, -1, Integer.MIN_VALUE, Integer.MAX_VALUE}) {
            CHECK.due("keep(" + n + ")", x.keep(n), Check.BEYOND);
        }
        CHECK.holds("nothing changes", before.equals(Check.stateOf(x)));
        CHECK.due("status(0)", x.status(0), 5);
    }

    private static void keepLeavesTheOthersOut() {
        CrowLikeness x = oneField("dead temper 20; likeness 0 at 20; likeness 0 at 23");
        CHECK.due("as two meet, it lets in on the second day", x.eaten(2), 6);
        CHECK.due("keep(2)", x.keep(2), 1);
        x.place(0, 2, 365);
        x.place(1, 0, 20);
        CHECK.due("each is as old as it is", x.keep(1), 2);
        CrowLikeness y = oneField("dead temper 10; dead temper 10; likeness 0 at 20; likeness 1 at 20");
        CHECK.due("all are needed", y.keep(10), 3);
    }

    private static void worth() {
        CHECK.due("worth(1) without any", new CrowLikeness().worth(1), Check.NONE);
        CrowLikeness x = oneField("wheat 40 20; sitter; dead temper 30; dead temper 30; likeness 1 at 20");
        x.likeness(2, 40);
        String before = Check.stateOf(x);
        CHECK.due("eaten(20)", x.eaten(20), 0);
        CHECK.due("of two alike the least", x.worth(1), 1);
        CHECK.due("who keeps more", x.worth(2), 2);
        CHECK.due("worth(20)", x.worth(20), 2);
        CHECK.holds("nothing changes", before.equals(Check.stateOf(x)));
        x.crows(0);
        CHECK.due("without crows", x.worth(1), Check.NONE);
        for (int n : new int[] {0, 21, -1, Integer.MIN_VALUE, Integer.MAX_VALUE}) {
            CHECK.due("worth(" + n + ")", x.worth(n), Check.BEYOND);
        }
        CHECK.due("status(0)", x.status(0), 5);
        CHECK.due("status(3)", x.status(3), 1);
        CrowLikeness y = oneField("dead temper 25; lady temper 20; likeness 0 at 20; likeness 1 at 20");
        CHECK.due("without the lady less is eaten", y.worth(1), Check.NONE);
        y.set(1, 1, 10);
        CHECK.due("without the dead more is", y.worth(1), 0);
    }

    private static void apart() {
        CrowLikeness x = new CrowLikeness();
        CHECK.due("apart of none", x.apart(0), Check.BEYOND);
        Check.plainOf(x, "sitter; sitter; likeness 0 at 20; likeness 1 at 20");
        CHECK.due("it meets none", x.apart(0), 20);
        x.likeness(0, 21);
        String before = Check.stateOf(x);
        CHECK.due("up is nearest and least", x.apart(0), 12);
        CHECK.due("of the other too", x.apart(2), 13);
        CHECK.holds("nothing changes", before.equals(Check.stateOf(x)));
        x.place(0, 0, 4);
        x.place(2, 0, 5);
        CHECK.due("down, at the upper edge", x.apart(0), 12);
        x.place(0, 0, 12);
        x.place(2, 0, 4);
        CHECK.due("left, in one column", x.apart(0), 11);
        x.place(0, 0, 8);
        x.place(2, 0, 0);
        CHECK.due("right, at the left edge", x.apart(0), 9);
        x.place(0, 0, 0);
        CHECK.due("from one cell two off", x.apart(0), 9);
        x.place(0, 0, 1);
        x.place(2, 0, 9);
        CHECK.due("left, to the first cell", x.apart(0), 0);
        CHECK.due("apart(3)", x.apart(3), Check.BEYOND);
        for (int l : new int[] {-1, Integer.MIN_VALUE, Integer.MAX_VALUE}) {
            CHECK.due("apart(" + l + ")", x.apart(l), Check.BEYOND);
        }
        CHECK.due("status(0)", x.status(0), 5);
        everyRowHasOne();
    }

    private static void everyRowHasOne() {
        CrowLikeness x = new CrowLikeness();
        Check.plainOf(x, "sitter; likeness 0 at 0; likeness 0 at 9; likeness 0 at 18; likeness 0 at 27");
        Check.plainOf(x, "likeness 0 at 36; likeness 0 at 45; likeness 0 at 45; likeness 0 at 45");
        CHECK.due("no cell is free of all, one pair at least", x.of(0, 5), 3);
        CHECK.due("the nearest that meets one alone", x.apart(7), 36);
    }

    private static void swap() {
        CHECK.due("swap(1) without any", new CrowLikeness().swap(1), Check.NONE);
        CrowLikeness x = oneField("dead temper 5; dead temper 30; likeness 0 at 20; likeness 1 at 40; likeness 0 at 20");
        String before = Check.stateOf(x);
        CHECK.due("of two alike the least", x.swap(1), 1);
        x.place(0, 0, 47);
        CHECK.due("10 times the lesser", x.swap(1), 12);
        x.place(0, 0, 20);
        CHECK.holds("nothing changes", before.equals(Check.stateOf(x)));
        x.place(1, 0, 20);
        CHECK.due("it is best as it is", x.swap(20), Check.NONE);
        for (int n : new int[] {0, 21, -1, Integer.MIN_VALUE, Integer.MAX_VALUE}) {
            CHECK.due("swap(" + n + ")", x.swap(n), Check.BEYOND);
        }
        CHECK.due("status(0)", x.status(0), 5);
        CHECK.due("status(3)", x.status(3), 1);
        CrowLikeness y = oneField("dead temper 26; dead temper 26; likeness 0 at 47; likeness 1 at 40; likeness 0 at 20");
        y.place(2, 2, 365);
        CHECK.due("both would do: the lesser one", y.swap(1), 2);
    }

    /** As many as can be, each likeness in the last cell, where a row that is too short would show. */
    private static void allThatCanBe() {
        CrowLikeness x = new CrowLikeness();
        Check.plainOf(x, "sitter;bailiff;laughed;dead;lady;stranger;wheat 0 99 to 47;crows 20");
        for (int l = 0; l < 8; l++) {
            x.likeness(Math.min(l, 5), 47);
        }
        String before = Check.stateOf(x);
        CHECK.due("fear in the last cell: 10, 15, 4, 10, -5 and 20", x.cell(47, 1), 1054);
        CHECK.due("fear in the first cell: a bailiff's 3", x.cell(0, 1), 1003);
        CHECK.due("spot", x.spot(0, 20), 0);
        CHECK.due("whose", x.whose(7, 20), 0);
        CHECK.due("kind", x.kind(5, 20), 0);
        CHECK.due("temper", x.temper(5, 20), 0);
        CHECK.due("keep", x.keep(10), 0);
        CHECK.due("worth", x.worth(20), Check.NONE);
        CHECK.due("apart", x.apart(7), 38);
        CHECK.due("swap", x.swap(20), Check.NONE);
        CHECK.due("who meet", x.now(5), 32);
        CHECK.due("what is due to them", x.now(3), 30);
        CHECK.holds("nothing changes", before.equals(Check.stateOf(x)));
    }
}
