/** Boundary cases of promises 1 to 4: a new object, wheat, cell, crows. */
final class PlainEdges {
    private PlainEdges() {
    }

    // ---- 1: a new object

    @Says("No SITTERS, no LIKENESSES;")
    static void p01_hasNoSittersAndNoLikenesses() {
        CrowLikeness x = new CrowLikeness();
        Edge.due("count(0)", x.count(0), 0);
        Edge.due("count(2)", x.count(2), 0);
        Edge.due("count(3)", x.count(3), 0);
        Edge.due("of(0, 0)", x.of(0, 0), Check.BEYOND);
        Edge.due("told(0, 0)", x.told(0, 0), Check.BEYOND);
        Edge.due("the first sitter's number", x.sitter(0), 0);
        Edge.due("the first likeness's number", x.likeness(0, 0), 0);
    }

    @Says("THE TAPE is empty,")
    static void p01_tapeIsEmpty() {
        CrowLikeness x = new CrowLikeness();
        Edge.due("count(1)", x.count(1), 0);
        Edge.due("wipe()", x.wipe(), 0);
        Edge.due("plain()", x.plain(), -1);
    }

    @Says("no image is kept.")
    static void p01_noImageIsKept() {
        Edge.due("undo()", new CrowLikeness().undo(), Check.NONE);
        Edge.due("tear()", new CrowLikeness().tear(), 0);
    }

    @Says("or MISSING (at first).")
    static void p01_sheetsAreMissing() {
        CrowLikeness x = new CrowLikeness();
        for (int s = 0; s < 4; s++) {
            Edge.due("write(" + s + ", 0, 0)", x.write(s, 0, 0), Check.MISSING);
        }
    }

    @Says("10 at first).")
    static void p01_wheatIs10InEachCell() {
        CrowLikeness x = new CrowLikeness();
        for (int c = 0; c < 48; c++) {
            Edge.due("cell(" + c + ", 0)", x.cell(c, 0), 10);
        }
    }

    @Says("3 at first) come a day.")
    static void p01_crowsAre3() {
        Edge.due("now(1)", new CrowLikeness().now(1), 3);
        Edge.due("3 crows eat 6 a day", new CrowLikeness().days(1), 6);
    }

    @Says("DAY: 0 at first")
    static void p01_dayIs0() {
        Edge.due("now(0)", new CrowLikeness().now(0), 0);
    }

    @Says("No SITTERS, no LIKENESSES;")
    static void p01_isNewWhateverBecameOfOthers() {
        CrowLikeness other = Edge.rich();
        other.wheat(0, 99);
        String first = Edge.observe(new CrowLikeness());
        other.crows(20);
        Edge.holds("each new object is alike", first.equals(Edge.observe(new CrowLikeness())));
    }

    @Says("No SITTERS, no LIKENESSES;")
    static void p01_answersItsLastOf512Calls() {
        CrowLikeness x = new CrowLikeness();
        for (int call = 1; call <= 511; call++) {
            x.wheat(call % 48, call % 100);
        }
        Edge.due("the 512th call: wheat(31, 0)", x.wheat(31, 0), 11);
    }

    // ---- 2: wheat

    @Says("Each has WHEAT (0 to 99;")
    static void p02_wheatIs0AtLeast() {
        CrowLikeness x = new CrowLikeness();
        Edge.due("wheat(5, 0)", x.wheat(5, 0), 10);
        Edge.due("cell(5, 0)", x.cell(5, 0), 0);
        Edge.refuses("wheat(5, -1)", y -> y.wheat(5, -1), Check.BEYOND);
    }

    @Says("Each has WHEAT (0 to 99;")
    static void p02_wheatIs99AtMost() {
        CrowLikeness x = new CrowLikeness();
        Edge.due("wheat(5, 99)", x.wheat(5, 99), 10);
        Edge.due("cell(5, 0)", x.cell(5, 0), 99);
        Edge.refuses("wheat(5, 100)", y -> y.wheat(5, 100), Check.BEYOND);
    }

    @Says("WHEAT of a CELL becomes v: what it was.")
    static void p02_tellsWhatItWas() {
        CrowLikeness x = new CrowLikeness();
        x.wheat(46, 1);
        x.wheat(47, 99);
        Edge.due("wheat(47, 99) as it is", x.wheat(47, 99), 99);
        Edge.due("wheat(47, 0)", x.wheat(47, 0), 99);
        Edge.due("wheat(47, 3)", x.wheat(47, 3), 0);
        Edge.due("the cell beside it", x.cell(46, 0), 1);
    }

    @Says("CELLS 0 to 47,")
    static void p02_firstAndLastCell() {
        CrowLikeness x = new CrowLikeness();
        Edge.due("wheat(0, 1)", x.wheat(0, 1), 10);
        Edge.due("wheat(47, 2)", x.wheat(47, 2), 10);
        Edge.due("cell(0, 0)", x.cell(0, 0), 1);
        Edge.due("cell(47, 0)", x.cell(47, 0), 2);
    }

    @Says("BEYOND.")
    static void p02_beyondOfCell() {
        for (int cell : Edge.outside(0, 47)) {
            Edge.refuses("wheat(" + cell + ", 5)", y -> y.wheat(cell, 5), Check.BEYOND);
        }
    }

    @Says("BEYOND.")
    static void p02_beyondOfWheat() {
        for (int v : Edge.outside(0, 99)) {
            Edge.refuses("wheat(5, " + v + ")", y -> y.wheat(5, v), Check.BEYOND);
        }
    }

    @Says("BEYOND.")
    static void p02_beyondOfBothCountsOnce() {
        Edge.refuses("wheat(48, 100)", y -> y.wheat(48, 100), Check.BEYOND);
    }

    // ---- 3: cell

    @Says("Of a CELL: what 0 WHEAT,")
    static void p03_wheatOf0AndOf99() {
        CrowLikeness x = new CrowLikeness();
        x.wheat(0, 99);
        x.wheat(47, 0);
        Edge.due("cell(0, 0)", x.cell(0, 0), 99);
        Edge.due("cell(47, 0)", x.cell(47, 0), 0);
        Edge.asks("cell(12, 0)", y -> y.cell(12, 0), 40);
    }

    @Says("1 1000 and FEAR,")
    static void p03_fearOfNoneIs1000() {
        CrowLikeness x = new CrowLikeness();
        Edge.due("without a sitter", x.cell(0, 1), 1000);
        x.sitter(1);
        Edge.due("without a likeness", x.cell(0, 1), 1000);
    }

    @Says("FEAR of a CELL: for each SITTER that has a LIKENESS")
    static void p03_fearLeavesOutWhoHasNoLikeness() {
        CrowLikeness x = Edge.plain("bailiff temper 30; bailiff temper 30; likeness 1 at 0");
        Edge.due("cell(0, 1)", x.cell(0, 1), 1035);
        x.place(0, 1, 0);
        Edge.due("once it is of the other one", x.cell(0, 1), 1035);
    }

    @Says("what that one of them SCARES there, by APART, which SCARES most;")
    static void p03_fearTakesTheMostOfOneSitters() {
        CrowLikeness x = Edge.plain("dead temper 30; likeness 0 at 0; likeness 0 at 3; likeness 0 at 3");
        Edge.due("at the first", x.cell(0, 1), 1030);
        Edge.due("nearer to the first", x.cell(1, 1), 1027);
        Edge.due("nearer to the others", x.cell(2, 1), 1027);
        Edge.due("at the others", x.cell(3, 1), 1030);
        x.place(1, 2, 365);
        x.place(2, 2, 365);
        Edge.due("though one counts for nothing there", x.cell(3, 1), 1021);
    }

    @Says("which SCARES most;")
    static void p03_fearOfALadyTakesTheOneNearestTo0() {
        CrowLikeness x = Edge.plain("lady temper 30; likeness 0 at 0; likeness 0 at 7");
        Edge.due("at one, 7 off the other", x.cell(0, 1), 999);
        Edge.due("one that scares 0 is most", x.cell(8, 1), 1000);
    }

    @Says("all these together (it may be below 0).")
    static void p03_fearAtItsLeast() {
        CrowLikeness x = Edge.plain("lady;lady;lady;lady;lady;lady");
        for (int s = 0; s < 6; s++) {
            x.set(s, 1, 30);
            x.likeness(s, 47);
        }
        Edge.due("six ladies", x.cell(47, 1), 1000 - 90);
        Edge.due("six ladies, 7 off", x.cell(40, 1), 1000 - 6);
        Edge.due("six ladies, 8 off", x.cell(32, 1), 1000);
    }

    @Says("all these together (it may be below 0).")
    static void p03_fearAtItsMost() {
        CrowLikeness x = Edge.plain("stranger;stranger;stranger;stranger;stranger;stranger");
        for (int s = 0; s < 6; s++) {
            x.set(s, 1, 30);
            x.likeness(s, 0);
        }
        Edge.due("six strangers", x.cell(0, 1), 1360);
        Edge.due("six strangers, 1 off", x.cell(8, 1), 1000 + 6 * 54);
        Edge.due("six strangers, 2 off", x.cell(9, 1), 1000 + 6 * 24);
    }

    @Says("in 6 rows (row: by 8) of 8 columns (the rest).")
    static void p03_rowsEndBehindTheirEighthCell() {
        CrowLikeness x = Edge.plain("bailiff temper 30; likeness 0 at 7");
        Edge.due("cell 8 begins the next row", x.cell(8, 1), 1000 + 35 - 8);
        Edge.due("cell 15 is below", x.cell(15, 1), 1000 + 35 - 1);
        Edge.due("cell 6 is beside", x.cell(6, 1), 1000 + 35 - 1);
        Edge.due("cell 47 is five rows below", x.cell(47, 1), 1000 + 35 - 5);
    }

    @Says("APART: rows and columns between two, together.")
    static void p03_apartFrom0To12() {
        CrowLikeness x = Edge.plain("bailiff temper 30; likeness 0 at 0");
        Edge.due("0 apart", x.cell(0, 1), 1035);
        Edge.due("12 apart", x.cell(47, 1), 1023);
        x.place(0, 0, 47);
        Edge.due("12 apart, from the end", x.cell(0, 1), 1023);
        x.place(0, 0, 40);
        Edge.due("12 apart, over the other corners", x.cell(7, 1), 1023);
        Edge.due("5 rows apart", x.cell(0, 1), 1030);
        Edge.due("7 columns apart", x.cell(47, 1), 1028);
    }

    @Says({"2 LIKENESSES AT it, as a set.", "Sets are told by bits."})
    static void p03_setOfNoneAndOfAllEight() {
        CrowLikeness x = Edge.plain("sitter");
        Edge.due("none", x.cell(47, 2), 0);
        for (int l = 0; l < 7; l++) {
            x.likeness(0, 47);
        }
        x.likeness(0, 46);
        Edge.due("the eighth alone", x.cell(46, 2), 128);
        Edge.due("the others", x.cell(47, 2), 127);
        x.place(7, 0, 47);
        Edge.due("all eight", x.cell(47, 2), 255);
        Edge.due("none is left", x.cell(46, 2), 0);
    }

    @Says("BEYOND.")
    static void p03_beyondOfCell() {
        for (int cell : Edge.outside(0, 47)) {
            for (int what = 0; what < 3; what++) {
                int w = what;
                Edge.refuses("cell(" + cell + ", " + what + ")", y -> y.cell(cell, w), Check.BEYOND);
            }
        }
    }

    @Says("BEYOND.")
    static void p03_beyondOfWhat() {
        for (int what : Edge.outside(0, 2)) {
            Edge.refuses("cell(5, " + what + ")", y -> y.cell(5, what), Check.BEYOND);
        }
        Edge.refuses("cell(-1, -1)", y -> y.cell(-1, -1), Check.BEYOND);
    }

    @Says("1 1000 and FEAR,")
    static void p03_askingChangesNothing() {
        Edge.asks("cell(12, 1)", y -> y.cell(12, 1), 1024);
        Edge.asks("cell(12, 2)", y -> y.cell(12, 2), 1);
    }

    // ---- 4: crows

    @Says({"CROWS (0 to 20;", "CROWS become v: how many they were."})
    static void p04_from0To20() {
        CrowLikeness x = new CrowLikeness();
        Edge.due("crows(20)", x.crows(20), 3);
        Edge.due("now(1)", x.now(1), 20);
        Edge.due("crows(0)", x.crows(0), 20);
        Edge.due("now(1)", x.now(1), 0);
        Edge.due("crows(0) as it is", x.crows(0), 0);
    }

    @Says("BEYOND.")
    static void p04_beyond() {
        for (int v : Edge.outside(0, 20)) {
            Edge.refuses("crows(" + v + ")", y -> y.crows(v), Check.BEYOND);
        }
    }
}
