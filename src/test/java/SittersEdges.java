/** Boundary cases of promises 5 to 9: sitter, of, set, turn, as. */
final class SittersEdges {
    private static final boolean[][] IS_UNDER = {
        {true, false, false, false, false, false},
        {true, true, false, false, false, false},
        {true, false, true, false, false, false},
        {true, false, false, true, false, false},
        {true, false, true, false, true, false},
        {true, false, false, true, false, true},
    };

    private SittersEdges() {
    }

    /** As many as can be, one of each kind. */
    private static CrowLikeness six() {
        return Edge.plain("sitter;bailiff;laughed;dead;lady;stranger");
    }

    // ---- 5: sitter

    @Says("A new SITTER: its number.")
    static void p05_leastAndGreatestKind() {
        CrowLikeness x = new CrowLikeness();
        Edge.due("sitter(0)", x.sitter(0), 0);
        Edge.due("sitter(5)", x.sitter(5), 1);
        Edge.due("of(0, 0)", x.of(0, 0), 0);
        Edge.due("of(1, 0)", x.of(1, 0), 5);
    }

    @Says("BEYOND: kind.")
    static void p05_beyondOfKind() {
        for (int kind : Edge.outside(0, 5)) {
            Edge.refuses("sitter(" + kind + ")", y -> y.sitter(kind), Check.BEYOND);
        }
    }

    @Says("SITTERS 0, 1, .. (at most 6) are of KINDS:")
    static void p05_sixthComes() {
        CrowLikeness x = Edge.plain("dead;dead;dead;dead;dead");
        Edge.due("the 6th", x.sitter(5), 5);
        Edge.due("count(0)", x.count(0), 6);
        Edge.due("of(5, 0)", x.of(5, 0), 5);
    }

    @Says("FULL.")
    static void p05_seventhIsFull() {
        for (int kind = 0; kind < 6; kind++) {
            int k = kind;
            Edge.refuses(SittersEdges::six, "a 7th, sitter(" + kind + ")", y -> y.sitter(k), Check.FULL);
        }
    }

    @Says({"BEYOND: kind. FULL.", "Each act tells its findings in the order in which they are asked;"})
    static void p05_beyondIsAskedBeforeFull() {
        Edge.refuses(SittersEdges::six, "a 7th, sitter(6)", y -> y.sitter(6), Check.BEYOND);
        Edge.refuses(SittersEdges::six, "a 7th, sitter(-1)", y -> y.sitter(-1), Check.BEYOND);
    }

    @Says({"each with a TEMPER (0 to 30; 10 at first),", "a FEE (0 to 99; 5 at first),"})
    static void p05_temperIs10AndFee5AtFirst() {
        CrowLikeness x = six();
        for (int s = 0; s < 6; s++) {
            Edge.due("of(" + s + ", 1)", x.of(s, 1), 10);
            Edge.due("of(" + s + ", 2)", x.of(s, 2), 5);
        }
    }

    @Says("10 at first),")
    static void p05_comesAnewWhereAnotherWas() {
        CrowLikeness x = new CrowLikeness();
        x.image();
        x.sitter(4);
        x.set(0, 1, 30);
        x.set(0, 2, 99);
        x.undo();
        Edge.due("sitter(1)", x.sitter(1), 0);
        Edge.due("of(0, 0)", x.of(0, 0), 1);
        Edge.due("of(0, 1)", x.of(0, 1), 10);
        Edge.due("of(0, 2)", x.of(0, 2), 5);
    }

    @Says("SINCE (the DAY that it came on).")
    static void p05_sinceTheFirstAndTheLastDay() {
        CrowLikeness x = new CrowLikeness();
        x.sitter(0);
        Edge.due("of(0, 3)", x.of(0, 3), 0);
        x = Edge.atDay(9999);
        x.sitter(0);
        Edge.due("of(0, 3) on the last day", x.of(0, 3), 9999);
    }

    @Says("SINCE (the DAY that it came on).")
    static void p05_sinceStaysAsDaysGo() {
        CrowLikeness x = Edge.atDay(1);
        x.sitter(0);
        x.days(60);
        Edge.due("of(0, 3)", x.of(0, 3), 1);
    }

    // ---- 6: of

    @Says("Of a SITTER: what 0 KIND, 1 TEMPER, 2 FEE, 3 SINCE,")
    static void p06_leastAndGreatestOfEach() {
        CrowLikeness x = Edge.plain("stranger temper 30 fee 99; sitter temper 0 fee 0");
        int[] most = {5, 30, 99, 0, 0, 0};
        int[] least = {0, 0, 0, 0, 0, 0};
        for (int what = 0; what < 6; what++) {
            Edge.due("of(0, " + what + ")", x.of(0, what), most[what]);
            Edge.due("of(1, " + what + ")", x.of(1, what), least[what]);
        }
        Edge.asks("of(1, 2)", y -> y.of(1, 2), 7);
    }

    @Says("4 how many LIKENESSES,")
    static void p06_noLikenessAndEight() {
        CrowLikeness x = Edge.plain("sitter;sitter");
        for (int l = 0; l < 8; l++) {
            x.likeness(1, l);
        }
        Edge.due("of(0, 4)", x.of(0, 4), 0);
        Edge.due("of(1, 4)", x.of(1, 4), 8);
    }

    @Says("5 how many pairs of them MEET.")
    static void p06_noPairAndTwentyEight() {
        CrowLikeness x = Edge.plain("sitter;sitter");
        for (int l = 0; l < 8; l++) {
            x.likeness(1, 47);
        }
        Edge.due("none of one without a likeness", x.of(0, 5), 0);
        Edge.due("each with each, in one row and one column at once", x.of(1, 5), 28);
        x.place(7, 1, 0);
        Edge.due("none of one with one likeness", x.of(0, 5), 0);
        Edge.due("one less", x.of(1, 5), 21);
    }

    @Says("MINDS: two LIKENESSES OF one SITTER MEET, if they are in one row or one column.")
    static void p06_meetingFromEndToEnd() {
        CrowLikeness x = Edge.plain("sitter; likeness 0 at 0; likeness 0 at 7");
        Edge.due("both ends of a row", x.of(0, 5), 1);
        x.place(1, 0, 8);
        Edge.due("the next row, the same column", x.of(0, 5), 1);
        x.place(1, 0, 40);
        Edge.due("both ends of a column", x.of(0, 5), 1);
        x.place(1, 0, 9);
        Edge.due("neither", x.of(0, 5), 0);
        x.place(0, 0, 7);
        x.place(1, 0, 8);
        Edge.due("cells 7 and 8 are in two rows", x.of(0, 5), 0);
        x.place(0, 0, 47);
        x.place(1, 0, 40);
        Edge.due("both ends of the last row", x.of(0, 5), 1);
        x.place(1, 0, 39);
        Edge.due("cells 39 and 47 are in one column", x.of(0, 5), 1);
        x.place(0, 0, 40);
        Edge.due("cells 39 and 40 are in two rows", x.of(0, 5), 0);
    }

    @Says("two LIKENESSES OF one SITTER MEET,")
    static void p06_thoseOfTwoDoNotMeet() {
        CrowLikeness x = Edge.plain("sitter; sitter; likeness 0 at 0; likeness 1 at 0");
        Edge.due("of(0, 5)", x.of(0, 5), 0);
        Edge.due("of(1, 5)", x.of(1, 5), 0);
    }

    @Says("BEYOND.")
    static void p06_beyondOfSitter() {
        Edge.refuses(CrowLikeness::new, "of(0, 0) where none is", y -> y.of(0, 0), Check.BEYOND);
        Edge.refuses("of(3, 0) where three are", y -> y.of(3, 0), Check.BEYOND);
        for (int s : Edge.outside(0, 5)) {
            Edge.refuses(SittersEdges::six, "of(" + s + ", 0)", y -> y.of(s, 0), Check.BEYOND);
        }
        Edge.asks(SittersEdges::six, "of(5, 0)", y -> y.of(5, 0), 5);
    }

    @Says("BEYOND.")
    static void p06_beyondOfWhat() {
        for (int what : Edge.outside(0, 5)) {
            Edge.refuses("of(0, " + what + ")", y -> y.of(0, what), Check.BEYOND);
        }
        Edge.refuses("of(-1, -1)", y -> y.of(-1, -1), Check.BEYOND);
    }

    // ---- 7: set

    @Says("TEMPER (what 1), FEE (2) of a SITTER becomes v: what it was.")
    static void p07_temperFrom0To30() {
        CrowLikeness x = Edge.plain("sitter;sitter");
        Edge.due("set(0, 1, 0)", x.set(0, 1, 0), 10);
        Edge.due("set(0, 1, 30)", x.set(0, 1, 30), 0);
        Edge.due("set(0, 1, 30) as it is", x.set(0, 1, 30), 30);
        Edge.due("the fee stays", x.of(0, 2), 5);
        Edge.due("the other one's stays", x.of(1, 1), 10);
    }

    @Says("FEE (2) of a SITTER becomes v: what it was.")
    static void p07_feeFrom0To99() {
        CrowLikeness x = Edge.plain("sitter;sitter");
        Edge.due("set(1, 2, 0)", x.set(1, 2, 0), 5);
        Edge.due("set(1, 2, 31), above any temper", x.set(1, 2, 31), 0);
        Edge.due("set(1, 2, 99)", x.set(1, 2, 99), 31);
        Edge.due("set(1, 2, 99) as it is", x.set(1, 2, 99), 99);
        Edge.due("the temper stays", x.of(1, 1), 10);
        Edge.due("the other one's stays", x.of(0, 2), 5);
    }

    @Says("BEYOND.")
    static void p07_beyondOfTemper() {
        for (int v : Edge.outside(0, 30)) {
            Edge.refuses("set(0, 1, " + v + ")", y -> y.set(0, 1, v), Check.BEYOND);
        }
    }

    @Says("BEYOND.")
    static void p07_beyondOfFee() {
        for (int v : Edge.outside(0, 99)) {
            Edge.refuses("set(0, 2, " + v + ")", y -> y.set(0, 2, v), Check.BEYOND);
        }
    }

    @Says("BEYOND.")
    static void p07_beyondOfWhat() {
        for (int what : Edge.outside(1, 2)) {
            Edge.refuses("set(0, " + what + ", 5)", y -> y.set(0, what, 5), Check.BEYOND);
        }
    }

    @Says("BEYOND.")
    static void p07_beyondOfSitter() {
        Edge.refuses(CrowLikeness::new, "set(0, 1, 5) where none is", y -> y.set(0, 1, 5), Check.BEYOND);
        Edge.refuses("set(3, 1, 5) where three are", y -> y.set(3, 1, 5), Check.BEYOND);
        for (int s : Edge.outside(0, 5)) {
            Edge.refuses(SittersEdges::six, "set(" + s + ", 2, 5)", y -> y.set(s, 2, 5), Check.BEYOND);
        }
        CrowLikeness x = six();
        Edge.due("set(5, 1, 5)", x.set(5, 1, 5), 10);
        Edge.due("of(5, 1)", x.of(5, 1), 5);
    }

    // ---- 8: turn

    @Says("A SITTER becomes one of another KIND: what it was.")
    static void p08_leastAndGreatestKind() {
        CrowLikeness x = Edge.plain("sitter;laughed");
        Edge.due("turn(0, 5)", x.turn(0, 5), 0);
        Edge.due("of(0, 0)", x.of(0, 0), 5);
        Edge.due("turn(0, 0)", x.turn(0, 0), 5);
        Edge.due("of(0, 0)", x.of(0, 0), 0);
        Edge.due("the other one stays", x.of(1, 0), 2);
    }

    @Says("A SITTER becomes one of another KIND: what it was.")
    static void p08_toTheKindThatItIs() {
        CrowLikeness x = Edge.plain("sitter;lady");
        Edge.due("turn(1, 4)", x.turn(1, 4), 4);
        Edge.due("of(1, 0)", x.of(1, 0), 4);
        Edge.due("status(-1)", x.status(-1), 0);
    }

    @Says("A SITTER becomes one of another KIND:")
    static void p08_nothingElseOfItChanges() {
        CrowLikeness x = Edge.atDay(3);
        Check.plainOf(x, "sitter temper 30 fee 99; likeness 0 at 47");
        x.place(0, 2, 364);
        x.turn(0, 3);
        int[] due = {3, 30, 99, 3, 1};
        for (int what = 0; what < due.length; what++) {
            Edge.due("of(0, " + what + ")", x.of(0, what), due[what]);
        }
        Edge.due("told(0, 2)", x.told(0, 2), 364);
        Edge.due("what it counts for now", x.told(0, 3), 1030);
    }

    @Says("BEYOND.")
    static void p08_beyondOfKind() {
        for (int kind : Edge.outside(0, 5)) {
            Edge.refuses("turn(0, " + kind + ")", y -> y.turn(0, kind), Check.BEYOND);
        }
    }

    @Says("BEYOND.")
    static void p08_beyondOfSitter() {
        Edge.refuses(CrowLikeness::new, "turn(0, 1) where none is", y -> y.turn(0, 1), Check.BEYOND);
        Edge.refuses("turn(3, 1) where three are", y -> y.turn(3, 1), Check.BEYOND);
        for (int s : Edge.outside(0, 5)) {
            Edge.refuses(SittersEdges::six, "turn(" + s + ", 1)", y -> y.turn(s, 1), Check.BEYOND);
        }
        Edge.due("turn(5, 1)", six().turn(5, 1), 5);
    }

    // ---- 9: as

    @Says({"A SITTER as one of a kind: TEMPER.", "KIND: it isn't of that kind, nor of one under it.",
        "0 SITTER, 1 BAILIFF under SITTER, 2 LAUGHED under SITTER, 3 DEAD under SITTER, 4 LADY under LAUGHED, "
            + "5 STRANGER under DEAD;"})
    static void p09_eachKindAsEach() {
        for (int s = 0; s < 6; s++) {
            for (int kind = 0; kind < 6; kind++) {
                int sitter = s;
                int as = kind;
                String call = "as(" + s + ", " + kind + ")";
                if (IS_UNDER[s][kind]) {
                    Edge.asks(SittersEdges::six, call, y -> y.as(sitter, as), 10);
                } else {
                    Edge.refuses(SittersEdges::six, call, y -> y.as(sitter, as), Check.KIND);
                }
            }
        }
    }

    @Says("TEMPER.")
    static void p09_temperOf0AndOf30() {
        CrowLikeness x = Edge.plain("lady temper 0; stranger temper 30");
        Edge.due("as(0, 2)", x.as(0, 2), 0);
        Edge.due("as(1, 3)", x.as(1, 3), 30);
    }

    @Says("TEMPER.")
    static void p09_temperAsItIsAndNotAsItWas() {
        CrowLikeness x = six();
        x.set(5, 1, 7);
        Edge.due("as(5, 0) once set", x.as(5, 0), 7);
        x.likeness(5, 0);
        x.likeness(5, 0);
        x.days(2);
        Edge.due("as(5, 0) once he minds", x.as(5, 0), 5);
    }

    @Says("KIND: it isn't of that kind,")
    static void p09_asTheKindThatItTurnedTo() {
        CrowLikeness x = six();
        x.turn(0, 5);
        Edge.due("as(0, 5)", x.as(0, 5), 10);
        Edge.due("as(0, 4)", x.as(0, 4), Check.KIND);
        x.turn(5, 0);
        Edge.due("as(5, 5)", x.as(5, 5), Check.KIND);
    }

    @Says("BEYOND: no such one, kind.")
    static void p09_beyondOfSitter() {
        Edge.refuses(CrowLikeness::new, "as(0, 0) where none is", y -> y.as(0, 0), Check.BEYOND);
        for (int s : Edge.outside(0, 5)) {
            Edge.refuses(SittersEdges::six, "as(" + s + ", 0)", y -> y.as(s, 0), Check.BEYOND);
        }
    }

    @Says("BEYOND: no such one, kind. KIND:")
    static void p09_beyondIsAskedBeforeKind() {
        for (int kind : Edge.outside(0, 5)) {
            Edge.refuses(SittersEdges::six, "as(1, " + kind + ")", y -> y.as(1, kind), Check.BEYOND);
        }
        Edge.refuses(SittersEdges::six, "as(6, 5)", y -> y.as(6, 5), Check.BEYOND);
        Edge.refuses(SittersEdges::six, "as(6, 6)", y -> y.as(6, 6), Check.BEYOND);
    }
}
