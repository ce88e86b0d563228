/** Boundary cases of promises 28 to 30: feed, wipe, plain. */
final class TextEdges {
    private TextEdges() {
    }

    private static CrowLikeness withBytes(int n) {
        CrowLikeness x = Edge.plain("sitter; likeness 0 at 0; crows 4");
        for (int i = 0; i < n; i++) {
            x.feed(i < 112 ? ' ' : "crows 17".charAt(i - 112), 1);
        }
        return x;
    }

    /** A text of so many bytes that ends as told, with blanks ahead. */
    private static String filled(int n, String end) {
        return " ".repeat(n - end.length()) + end;
    }

    /** The text is good, on a plain with one sitter and one likeness. */
    private static CrowLikeness good(String text, int items) {
        CrowLikeness x = Edge.plain("sitter; likeness 0 at 0");
        Edge.due("'" + text + "'", Check.plainOf(x, text), items);
        Edge.due("the tape behind '" + text + "'", x.count(1), 0);
        return x;
    }

    /** The text has its fault where the sign ^ stands; nothing changes by it but the tape, and it is no finding. */
    private static void fault(String marked) {
        fault(Edge.plain("sitter; likeness 0 at 0"), Edge.plain("sitter; likeness 0 at 0"), marked);
    }

    private static void fault(CrowLikeness x, CrowLikeness twin, String marked) {
        int place = marked.indexOf('^');
        String text = marked.substring(0, place) + marked.substring(place + 1);
        Edge.due("'" + marked + "'", Check.plainOf(x, text), -1 - place);
        Edge.due("status(-1) behind '" + marked + "'", x.status(-1), 0);
        Edge.holds("nothing changes by '" + marked + "'", Edge.observe(x).equals(Edge.observe(twin)));
    }

    // ---- 28: feed

    @Says("THE TAPE gets the n lowest bytes of a number behind it, the highest of these first (n 1 to 4): "
        + "how many it has.")
    static void p28_oneByteToFour() {
        CrowLikeness x = new CrowLikeness();
        Edge.due("feed of 1", x.feed(0x41414163, 1), 1);
        Edge.due("feed of 2", x.feed(0x4141726f, 2), 3);
        Edge.due("feed of 3", x.feed(0x41777320, 3), 6);
        Edge.due("feed of 4", x.feed(0x20203139, 4), 10);
        Edge.due("crows 19", x.plain(), 1);
        Edge.due("now(1)", x.now(1), 19);
    }

    @Says("the n lowest bytes of a number")
    static void p28_numbersAtTheEndsOfInt() {
        for (int bytes : new int[] {0, -1, Integer.MIN_VALUE, Integer.MAX_VALUE}) {
            CrowLikeness x = Edge.plain("sitter");
            x.feed(' ', 1);
            Edge.due("feed(" + bytes + ", 4)", x.feed(bytes, 4), 5);
            Edge.due("no token begins so", x.plain(), -2);
        }
    }

    @Says("the n lowest bytes of a number")
    static void p28_aByteAbove127IsNoOtherOne() {
        CrowLikeness x = Edge.plain("sitter");
        Check.feedText(x, "crows ");
        x.feed('7' - 256, 1);
        Edge.due("only the lowest 8 bits count", x.plain(), 1);
        Check.feedText(x, "crows ");
        x.feed('7' + 128, 1);
        Edge.due("the highest of these counts", x.plain(), -7);
    }

    @Says("BEYOND: n.")
    static void p28_beyondOfN() {
        for (int n : new int[] {0, -1, 5, 8, 65537, Integer.MIN_VALUE, Integer.MAX_VALUE}) {
            Edge.refuses("feed(32, " + n + ")", y -> y.feed(32, n), Check.BEYOND);
            Edge.refuses(CrowLikeness::new, "feed(32, " + n + ") to an empty one", y -> y.feed(32, n), Check.BEYOND);
        }
    }

    @Says({"FULL.", "from THE TAPE (bytes, at most 120)."})
    static void p28_upTo120() {
        for (int n = 1; n <= 4; n++) {
            CrowLikeness x = withBytes(120 - n);
            Edge.due(n + " behind " + (120 - n), x.feed(0x20202020, n), 120);
            Edge.due("count(1)", x.count(1), 120);
        }
    }

    @Says("FULL.")
    static void p28_fullWhereNotAllOfThemGo() {
        for (int n = 1; n <= 4; n++) {
            for (int had = 121 - n; had <= 120; had++) {
                int bytes = n;
                int before = had;
                Edge.refuses(() -> withBytes(before), n + " behind " + had, y -> y.feed(0x31313131, bytes), Check.FULL);
            }
        }
    }

    @Says("BEYOND: n. FULL.")
    static void p28_beyondIsAskedBeforeFull() {
        for (int n : new int[] {0, 5, -1, Integer.MIN_VALUE, Integer.MAX_VALUE}) {
            Edge.refuses(() -> withBytes(120), "feed(32, " + n + ")", y -> y.feed(32, n), Check.BEYOND);
        }
    }

    // ---- 29: wipe

    @Says("THE TAPE is empty: how many it had.")
    static void p29_emptyFullAndBetween() {
        for (int n : new int[] {0, 1, 119, 120}) {
            CrowLikeness x = withBytes(n);
            Edge.due("wipe() of " + n, x.wipe(), n);
            Edge.due("count(1)", x.count(1), 0);
            Edge.due("wipe() again", x.wipe(), 0);
            Edge.due("the next byte is the first", x.feed(';', 1), 1);
            Edge.due("and nothing else is there", x.plain(), -1);
        }
    }

    @Says("THE TAPE is empty:")
    static void p29_thereIsRoomAgain() {
        CrowLikeness x = withBytes(120);
        x.wipe();
        Edge.due("feed of 4", x.feed(0x20202020, 4), 4);
        Edge.due("status(1)", x.status(1), 0);
    }

    // ---- 30: plain

    @Says("or how many bytes there are if it ends too early.")
    static void p30_emptyTape() {
        fault("^");
    }

    @Says("or how many bytes there are if it ends too early.")
    static void p30_onlyBlanks() {
        fault(" ^");
        fault("   ^");
        fault(" ".repeat(120) + "^");
    }

    @Says("or how many bytes there are if it ends too early.")
    static void p30_endsBehindTheSign() {
        fault("crows 3;^");
        fault("crows 3 ; ^");
        fault("sitter;^");
        fault(filled(120, "sitter;") + "^");
    }

    @Says("or how many bytes there are if it ends too early.")
    static void p30_endsWithinAnItem() {
        fault("dead temper^");
        fault("dead temper 3 fee^");
        fault("dead fee  ^");
        fault("likeness^");
        fault("likeness 0^");
        fault("likeness 0 at^");
        fault("wheat^");
        fault("wheat 3 ^");
        fault("wheat 3 4 to^");
        fault("crows^");
        fault(filled(120, "crows") + "^");
    }

    @Says("TEXT: ITEM { ; ITEM }.")
    static void p30_oneItem() {
        good("sitter", 1);
        good("crows 0", 1);
    }

    @Says({"TEXT: ITEM { ; ITEM }.", "how many ITEMS."})
    static void p30_asManyItemsAsGo() {
        CrowLikeness x = good("crows1;crows2;crows3;crows4;crows5;crows6;crows7;crows8;crows9;crows1;crows2;crows3;"
            + "crows4;crows5;crows6;crows7;crows 8", 17);
        Edge.due("the last one's", x.now(1), 8);
    }

    @Says({"SIGN ;", "TEXT: ITEM { ; ITEM }."})
    static void p30_betweenItemsOneSign() {
        fault("crows 3;^;crows 4");
        fault("crows 3 ^crows 4");
        fault("^;crows 3");
        fault("^;");
        fault("sitter ^sitter");
        fault("sitter ^likeness 0 at 0");
        fault("likeness 0 at 0 ^likeness 0 at 0");
        fault("wheat 0 1 ^wheat 0 1");
    }

    @Says({"TOKENS, each as long as can be: WORDS (letters a to z),", "(a NUMBER that may not be, another WORD,"})
    static void p30_wordsAreAsLongAsCanBe() {
        fault("^sitterlady");
        fault("^sitters");
        fault("^sitte");
        fault("^s");
        fault("^asitter");
        fault("^crowsz 3");
        fault("^crowsa 3");
        fault("^tempers 3");
        fault("sitter ^tempe 3");
        fault("sitter ^temperfee 3");
        fault("likeness 0 ^a 3");
        fault("likeness 0 ^att 3");
        fault("wheat 0 1 ^tot 3");
        fault("^" + "z".repeat(120));
    }

    @Says("another WORD,")
    static void p30_wordsOfOneOtherLetter() {
        String[] firsts = {"sitter", "bailiff", "laughed", "dead", "lady", "stranger", "likeness", "wheat", "crows"};
        for (String word : firsts) {
            for (int i = 0; i < word.length(); i++) {
                fault("^" + word.substring(0, i) + "q" + word.substring(i + 1) + " 0 at 0");
            }
        }
        fault("dead ^qemper 3");
        fault("dead ^tempeq 3");
        fault("dead ^qee 3");
        fault("dead ^feq 3");
        fault("likeness 0 ^qt 0");
        fault("likeness 0 ^aq 0");
        fault("wheat 0 1 ^qo 3");
        fault("wheat 0 1 ^tq 3");
    }

    @Says("blanks may stand between.")
    static void p30_blanksMayStandBetweenOrNot() {
        good("  crows   7  ;   crows  8  ", 2);
        CrowLikeness x = good("wheat3 4to5;dead temper7fee8;likeness1at9", 3);
        Edge.due("cell(5, 0)", x.cell(5, 0), 4);
        Edge.due("of(1, 1)", x.of(1, 1), 7);
        Edge.due("of(1, 2)", x.of(1, 2), 8);
        Edge.due("told(1, 0)", x.told(1, 0), 9);
    }

    @Says("blanks may stand between.")
    static void p30_blanksPartTokens() {
        fault("^cro ws 3");
        fault("crows 1 ^2");
        fault("wheat 1 2 ^3");
    }

    @Says("a byte that begins no TOKEN,")
    static void p30_bytesThatBeginNoToken() {
        for (int b : new int[] {0, 9, 10, 13, 31, 33, '-', '+', '.', '/', ':', '<', '@', 'A', 'Z', '[', '`', '{', 127,
            128, 160, 255}) {
            fault("^" + (char) b + "crows 3");
            fault("crows^" + (char) b + "3");
            fault("crows ^" + (char) b);
            fault("crows 3^" + (char) b);
        }
    }

    @Says("NUMBERS (digits, 999 at most),")
    static void p30_numbersAbove999() {
        fault("crows ^999");
        fault("crows ^1000");
        fault("wheat 0 ^1000");
        fault("wheat ^1000 0");
        fault("crows ^65537");
        fault("crows ^4294967297");
        fault("crows ^18446744073709551617");
        fault("crows ^1" + "0".repeat(113));
        fault("crows ^" + "9".repeat(114));
    }

    @Says("NUMBERS (digits, 999 at most),")
    static void p30_zerosAhead() {
        Edge.due("now(1)", good("crows 00020", 1).now(1), 20);
        Edge.due("now(1)", good("crows 000", 1).now(1), 0);
        Edge.due("now(1)", good("crows " + "0".repeat(113) + "9", 1).now(1), 9);
        fault("crows ^00021");
    }

    @Says({"ITEM: the name of a KIND (sitter bailiff laughed dead lady stranger),", "a new SITTER;"})
    static void p30_eachKind() {
        String[] names = {"sitter", "bailiff", "laughed", "dead", "lady", "stranger"};
        for (int kind = 0; kind < 6; kind++) {
            CrowLikeness x = good(names[kind], 1);
            int[] due = {kind, 10, 5, 0, 0};
            for (int what = 0; what < due.length; what++) {
                Edge.due(names[kind] + ": of(1, " + what + ")", x.of(1, what), due[what]);
            }
        }
    }

    @Says("perhaps temper and a NUMBER (0 to 30),")
    static void p30_temperFrom0To30() {
        Edge.due("of(1, 1)", good("dead temper 0", 1).of(1, 1), 0);
        Edge.due("of(1, 1)", good("dead temper 30", 1).of(1, 1), 30);
        Edge.due("the fee stays", good("dead temper 30", 1).of(1, 2), 5);
        fault("dead temper ^31");
        fault("dead temper ^99");
        fault("dead temper ^;");
        fault("dead temper ^fee 3");
        fault("dead temper 3 ^temper 3");
        fault("dead temper 3 ^4");
    }

    @Says("perhaps fee and a NUMBER (0 to 99):")
    static void p30_feeFrom0To99() {
        Edge.due("of(1, 2)", good("dead fee 0", 1).of(1, 2), 0);
        Edge.due("of(1, 2)", good("dead fee 99", 1).of(1, 2), 99);
        Edge.due("the temper stays", good("dead fee 99", 1).of(1, 1), 10);
        Edge.due("both", good("dead temper 30 fee 99", 1).count(3), 40);
        fault("dead fee ^100");
        fault("dead temper 30 fee ^100");
        fault("dead fee ^;");
        fault("dead fee 3 ^fee 3");
        fault("dead fee 3 ^temper 3");
        fault("dead ^3");
    }

    @Says("the name of a KIND for a 7th,")
    static void p30_sixthSitterAndSeventh() {
        CrowLikeness x = good("dead;dead;dead;dead;lady", 5);
        Edge.due("the sixth", x.of(5, 0), 4);
        fault("dead;dead;dead;dead;dead;^dead");
        fault("dead;dead;dead;dead;dead; ^sitter temper 99");
        fault("dead;dead;dead;dead;dead; ^stranger; x");
        fault("dead;dead;dead;dead;dead; ^sitters");
    }

    @Says("the name of a KIND for a 7th,")
    static void p30_seventhWhereSixAreThere() {
        String six = "dead;dead;dead;dead;dead;dead";
        fault(Edge.plain(six), Edge.plain(six), "^lady");
        fault(Edge.plain(six), Edge.plain(six), "crows 1; ^lady");
        CrowLikeness x = Edge.plain(six);
        Edge.due("other items", Check.plainOf(x, "likeness 5 at 47; crows 9; wheat 0 0"), 3);
    }

    @Says("likeness, a NUMBER (a SITTER there by then), at, a NUMBER (a CELL): a new LIKENESS;")
    static void p30_likenessAtTheFirstAndTheLastCell() {
        CrowLikeness x = good("likeness 0 at 0;likeness 0 at 47", 2);
        Edge.due("told(1, 0)", x.told(1, 0), 0);
        Edge.due("told(2, 0)", x.told(2, 0), 47);
        Edge.due("told(2, 1)", x.told(2, 1), 0);
        Edge.due("told(2, 2)", x.told(2, 2), 0);
        fault("likeness 0 at ^48");
        fault("likeness 0 at ^99");
        fault("likeness 0 at ^at");
        fault("likeness 0 ^0");
        fault("likeness 0 ^to 0");
        fault("likeness 0 ^;");
        fault("likeness 0 at 0 ^0");
        fault("likeness 0 at 0 ^to 3");
        fault("likeness ^at 0");
        fault("likeness ^;");
    }

    @Says("(a SITTER there by then)")
    static void p30_likenessOfWhoIsThereByThen() {
        fault("likeness ^1 at 0");
        fault("likeness ^1 at 0;dead");
        Edge.due("told(1, 1)", good("dead;likeness 1 at 0", 2).told(1, 1), 1);
        fault("dead;likeness ^2 at 0");
        Edge.due("told(1, 1)", good("dead;dead;dead;dead;dead;likeness 5 at 0", 6).told(1, 1), 5);
        fault("dead;dead;dead;dead;dead;likeness ^6 at 0");
        fault(new CrowLikeness(), new CrowLikeness(), "likeness ^0 at 0");
        fault(new CrowLikeness(), new CrowLikeness(), "likeness^");
        Edge.due("of the one ahead", Check.plainOf(new CrowLikeness(), "dead;likeness 0 at 0"), 2);
    }

    private static final String SEVEN = "likeness 0 at 1;likeness 0 at 2;likeness 0 at 3;likeness 0 at 4;"
        + "likeness 0 at 5;likeness 0 at 6;likeness 0 at 7";

    @Says("likeness for a 9th: its own),")
    static void p30_eighthLikenessAndNinth() {
        CrowLikeness x = good(SEVEN, 7);
        Edge.due("the eighth", x.told(7, 0), 7);
        Edge.due("a ninth", Check.plainOf(x, "likeness 0 at 0"), -1);
        Edge.due("a ninth that has other faults", Check.plainOf(x, "crows 2; likeness 9 at 99"), -1 - 9);
        Edge.due("a ninth that ends there", Check.plainOf(x, "likeness"), -1);
        Edge.due("crows are as they were", x.now(1), 3);
        Edge.due("count(2)", x.count(2), 8);
        Edge.due("other items", Check.plainOf(x, "dead; crows 9; wheat 0 0"), 3);
    }

    @Says("likeness for a 9th: its own),")
    static void p30_ninthLikenessWithinOneText() {
        CrowLikeness x = Edge.plain("sitter; likeness 0 at 0; likeness 0 at 0");
        Edge.due("seven more", Check.plainOf(x, SEVEN), -1 - 96);
        Edge.due("count(2)", x.count(2), 2);
    }

    @Says("wheat, a NUMBER (a CELL), a NUMBER (0 to 99),")
    static void p30_wheatOfTheFirstAndTheLastCell() {
        CrowLikeness x = good("wheat 0 0; wheat 47 99", 2);
        Edge.due("cell(0, 0)", x.cell(0, 0), 0);
        Edge.due("cell(1, 0)", x.cell(1, 0), 10);
        Edge.due("cell(46, 0)", x.cell(46, 0), 10);
        Edge.due("cell(47, 0)", x.cell(47, 0), 99);
        fault("wheat ^48 0");
        fault("wheat 0 ^100");
        fault("wheat ^to 3");
        fault("wheat 0 ^to 3");
        fault("wheat 0 ^;");
        fault("wheat ^;");
        fault("wheat 0 1 ^2");
        fault("wheat 0 1 ^at 2");
    }

    @Says("perhaps to and a NUMBER (a CELL, not less): all from the one to the other;")
    static void p30_wheatFromOneToTheOther() {
        CrowLikeness x = good("wheat 0 99 to 47", 1);
        Edge.due("now(2)", x.now(2), 4752);
        x = good("wheat 7 99 to 8", 1);
        Edge.due("cell(6, 0)", x.cell(6, 0), 10);
        Edge.due("cell(7, 0)", x.cell(7, 0), 99);
        Edge.due("cell(8, 0)", x.cell(8, 0), 99);
        Edge.due("cell(9, 0)", x.cell(9, 0), 10);
        Edge.due("to itself, the first", good("wheat 0 0 to 0", 1).now(2), 470);
        Edge.due("to itself, the last", good("wheat 47 0 to 47", 1).now(2), 470);
        fault("wheat 5 1 to ^4");
        fault("wheat 47 1 to ^46");
        fault("wheat 47 1 to ^0");
        fault("wheat 5 1 to ^48");
        fault("wheat 5 1 to ^;");
        fault("wheat 5 1 to 6 ^to 7");
        fault("wheat 5 1 to 6 ^7");
    }

    @Says("crows and a NUMBER (0 to 20).")
    static void p30_crowsFrom0To20() {
        Edge.due("now(1)", good("crows 0", 1).now(1), 0);
        Edge.due("now(1)", good("crows 20", 1).now(1), 20);
        fault("crows ^21");
        fault("crows ^crows");
        fault("crows ^;");
        fault("crows 3 ^4");
        fault("crows 3 ^to 4");
    }

    @Says("ITEM: the name of a KIND")
    static void p30_otherTokensBeginNoItem() {
        fault("^7");
        fault("^temper 3");
        fault("^fee 3");
        fault("^at 3");
        fault("^to 3");
        fault("^x");
        fault("crows 3; ^7");
        fault("crows 3; ^to 4");
    }

    @Says("FAULT: the place (from 0) of the first byte of the first TOKEN that can't stand there")
    static void p30_theFirstFaultCounts() {
        fault("^x ?");
        fault("crows ^21 ?; x");
        fault("crows 1; wheat 0 ^100 to 48; ?");
        fault(filled(119, "") + "^x");
        fault(filled(119, "sitter") + "^?");
        fault(filled(117, "crows ") + "^21 ");
    }

    @Says("THE TAPE is THE TEXT of a PLAIN, whose ITEMS come to what there is, and empty then: how many ITEMS.")
    static void p30_fullTape() {
        Edge.due("now(1)", good(filled(120, "crows 17"), 1).now(1), 17);
        Edge.due("of(1, 0)", good(filled(120, "dead"), 1).of(1, 0), 3);
        Edge.due("now(1)", good("crows 17" + " ".repeat(112), 1).now(1), 17);
        Edge.due("cell(9, 0)", good(filled(120, "wheat 0 7 to 9"), 1).cell(9, 0), 7);
    }

    @Says({"THE TEXT of a PLAIN,", "and empty then:"})
    static void p30_onlyWhatTheTapeHasNow() {
        CrowLikeness x = new CrowLikeness();
        Check.plainOf(x, "crows 20;dead temper 30 fee 99;wheat 0 0 to 47");
        Edge.due("of a longer text read", Check.plainOf(x, "crows"), -1 - 5);
        Check.feedText(x, "crows 19 to x;;;;");
        x.wipe();
        Edge.due("of a longer text wiped", Check.plainOf(x, "crows 1"), 1);
        Edge.due("now(1)", x.now(1), 1);
        Edge.due("nothing is left to read", x.plain(), -1);
    }

    @Says("With a FAULT: -1 less its place (nothing changes but that THE TAPE is empty; no finding).")
    static void p30_aFaultChangesNothing() {
        fault("lady temper 4 fee 3; likeness 1 at 4; wheat 0 3 to 47; crows 9; wheat 1 2 ^x");
        fault("lady temper 4 fee 3; likeness 1 at 4; wheat 0 3 to 47; crows 9;^");
        CrowLikeness x = Edge.rich();
        x.wipe();
        CrowLikeness twin = Edge.rich();
        twin.wipe();
        fault(x, twin, "wheat 0 0 to 47; dead; likeness 3 at 0; ^turn; crows 9");
    }

    @Says("whose ITEMS come to what there is,")
    static void p30_itemsComeBehindWhatThereIs() {
        CrowLikeness x = Edge.atDay(9999);
        x.sitter(2);
        Edge.due("two items", Check.plainOf(x, "dead; likeness 1 at 3"), 2);
        Edge.due("the one that was there", x.of(0, 0), 2);
        Edge.due("since the last day", x.of(1, 3), 9999);
        Edge.due("now(0)", x.now(0), 9999);
        Edge.due("status(-1)", x.status(-1), 0);
    }
}
