import java.util.function.Supplier;

/** Boundary cases of promises 20 to 27: spot, whose, kind, temper, keep, worth, apart, swap. */
final class BestEdges {
    private static final int[] NO_CHOICES = {0, -1, 21, 65537, Integer.MIN_VALUE, Integer.MAX_VALUE};
    private static final int[] NO_KEEPS = {0, -1, 11, 20, 65537, Integer.MIN_VALUE, Integer.MAX_VALUE};

    private BestEdges() {
    }

    /** One grain at a cell, so that it is eaten or not, and what texts tell beside. */
    private static Supplier<CrowLikeness> grainAt(int cell, String... texts) {
        return () -> {
            CrowLikeness x = Edge.bare(texts);
            x.wheat(cell, 1);
            return x;
        };
    }

    private static CrowLikeness full() {
        CrowLikeness x = Edge.plain("sitter;bailiff;laughed;dead;lady;stranger");
        for (int l = 0; l < 8; l++) {
            x.likeness(Math.min(l, 5), 5 * l);
        }
        return x;
    }

    // ---- 20 to 26: asking changes nothing

    @Says("ON: n DAYS go on with all as it is; nothing changes.")
    static void p20_changesNothing() {
        Edge.leaves("spot(0, 20)", y -> y.spot(0, 20));
    }

    @Says("ON: n DAYS go on with all as it is; nothing changes.")
    static void p21_changesNothing() {
        Edge.leaves("whose(0, 20)", y -> y.whose(0, 20));
        Edge.leaves("whose(3, 1)", y -> y.whose(3, 1));
    }

    @Says("ON: n DAYS go on with all as it is; nothing changes.")
    static void p22_changesNothing() {
        Edge.leaves("kind(0, 20)", y -> y.kind(0, 20));
        Edge.leaves("kind(2, 1)", y -> y.kind(2, 1));
    }

    @Says("ON: n DAYS go on with all as it is; nothing changes.")
    static void p23_changesNothing() {
        Edge.leaves("temper(0, 20)", y -> y.temper(0, 20));
        Edge.leaves("temper(2, 1)", y -> y.temper(2, 1));
    }

    @Says("ON: n DAYS go on with all as it is; nothing changes.")
    static void p24_changesNothing() {
        Edge.leaves("keep(1)", y -> y.keep(1));
        Edge.leaves("keep(10)", y -> y.keep(10));
    }

    @Says("The CELL to which a LIKENESS had best be moved,")
    static void p26_changesNothing() {
        Edge.leaves("apart(0)", y -> y.apart(0));
        Edge.leaves("apart(3)", y -> y.apart(3));
    }

    // ---- 20 to 27: where nothing is eaten whatever is chosen

    private static final String TWO = "dead temper 20; dead temper 30; likeness 1 at 47; likeness 0 at 46; ";

    private static CrowLikeness withoutWheat() {
        return Edge.bare(TWO + "crows 20");
    }

    private static CrowLikeness withoutCrows() {
        return Edge.plain(TWO + "crows 0");
    }

    @Says("of several the least.")
    static void p20_withoutWheatAndWithoutCrows() {
        Edge.asks(BestEdges::withoutWheat, "no wheat", y -> y.spot(1, 20), 0);
        Edge.asks(BestEdges::withoutCrows, "no crows", y -> y.spot(1, 20), 0);
    }

    @Says("of several the least.")
    static void p21_withoutWheatAndWithoutCrows() {
        Edge.asks(BestEdges::withoutWheat, "no wheat", y -> y.whose(0, 20), 0);
        Edge.asks(BestEdges::withoutCrows, "no crows", y -> y.whose(0, 20), 0);
    }

    @Says("of several the least.")
    static void p22_withoutWheatAndWithoutCrows() {
        Edge.asks(BestEdges::withoutWheat, "no wheat", y -> y.kind(1, 20), 0);
        Edge.asks(BestEdges::withoutCrows, "no crows", y -> y.kind(1, 20), 0);
    }

    @Says("The least TEMPER (0 to 30)")
    static void p23_withoutWheatAndWithoutCrows() {
        Edge.asks(BestEdges::withoutWheat, "no wheat", y -> y.temper(1, 20), 0);
        Edge.asks(BestEdges::withoutCrows, "no crows", y -> y.temper(1, 20), 0);
    }

    @Says("of several the least.")
    static void p24_withoutWheatAndWithoutCrows() {
        Edge.asks(BestEdges::withoutWheat, "no wheat", y -> y.keep(10), 0);
        Edge.asks(BestEdges::withoutCrows, "no crows", y -> y.keep(10), 0);
    }

    @Says("NONE.")
    static void p25_withoutWheatAndWithoutCrows() {
        Edge.refuses(BestEdges::withoutWheat, "no wheat", y -> y.worth(20), Check.NONE);
        Edge.refuses(BestEdges::withoutCrows, "no crows", y -> y.worth(20), Check.NONE);
    }

    @Says("NONE.")
    static void p27_withoutWheatAndWithoutCrows() {
        Edge.refuses(BestEdges::withoutWheat, "no wheat", y -> y.swap(20), Check.NONE);
        Edge.refuses(BestEdges::withoutCrows, "no crows", y -> y.swap(20), Check.NONE);
    }

    // ---- 20: spot

    @Says("The CELL AT which, put there now, a LIKENESS lets least be EATEN")
    static void p20_firstAndLastCell() {
        Edge.asks(grainAt(47, "dead temper 20; likeness 0 at 3"), "spot(0, 1)", y -> y.spot(0, 1), 47);
        Edge.asks(grainAt(0, "dead temper 20; likeness 0 at 47"), "spot(0, 1)", y -> y.spot(0, 1), 0);
    }

    @Says("of several the least.")
    static void p20_ofSeveralTheLeast() {
        Edge.asks(grainAt(20, "dead temper 23; likeness 0 at 20"), "one off will do", y -> y.spot(0, 1), 12);
        Edge.asks(() -> Edge.bare("dead temper 30; likeness 0 at 47"), "no wheat", y -> y.spot(0, 20), 0);
        Edge.asks(grainAt(47, "dead temper 19; likeness 0 at 47"), "it lets all be eaten", y -> y.spot(0, 1), 0);
    }

    @Says("ON n DAYS (1 to 20);")
    static void p20_oneDayAndTwenty() {
        Supplier<CrowLikeness> of24 = grainAt(47, "sitter temper 24; likeness 0 at 3");
        Edge.asks(of24, "spot(0, 1)", y -> y.spot(0, 1), 39);
        Edge.asks(of24, "spot(0, 20)", y -> y.spot(0, 20), 47);
        Supplier<CrowLikeness> of23 = grainAt(47, "sitter temper 23; likeness 0 at 3");
        Edge.asks(of23, "spot(0, 16)", y -> y.spot(0, 16), 47);
        Edge.asks(of23, "spot(0, 17)", y -> y.spot(0, 17), 0);
    }

    @Says("put there now,")
    static void p20_asOldAsItIs() {
        CrowLikeness x = grainAt(47, "dead temper 20; likeness 0 at 3").get();
        x.place(0, 2, 364);
        Edge.due("at 364, one day", x.spot(0, 1), 47);
        Edge.due("at 364, two days", x.spot(0, 2), 0);
        x.place(0, 2, 365);
        Edge.due("at 365", x.spot(0, 1), 0);
    }

    @Says("CELLS 0 to 47,")
    static void p20_noCellBehindTheLastIsTried() {
        // A lady lets in wherever she stands, and would let in nothing one row below cell 40.
        Edge.asks(() -> Edge.bare("wheat 2 1; wheat 29 1; dead temper 20; lady temper 30; likeness 0 at 2",
            "likeness 0 at 29; likeness 1 at 40"), "spot(2, 1)", y -> y.spot(2, 1), 0);
    }

    @Says("a LIKENESS lets least be EATEN")
    static void p20_leastMayBeMoreThanNothing() {
        CrowLikeness x = Edge.bare("wheat 0 9; wheat 47 8; dead temper 20; likeness 0 at 20; crows 20");
        Edge.due("9 are kept rather than 8", x.spot(0, 1), 0);
        x.wheat(47, 10);
        Edge.due("10 are kept rather than 9", x.spot(0, 1), 47);
    }

    @Says("BEYOND.")
    static void p20_beyondOfLikeness() {
        Edge.refuses(CrowLikeness::new, "spot(0, 1) where none is", y -> y.spot(0, 1), Check.BEYOND);
        Edge.refuses("spot(4, 1) where four are", y -> y.spot(4, 1), Check.BEYOND);
        for (int l : Edge.outside(0, 7)) {
            Edge.refuses(BestEdges::full, "spot(" + l + ", 1)", y -> y.spot(l, 1), Check.BEYOND);
        }
    }

    @Says("BEYOND.")
    static void p20_beyondOfDays() {
        for (int n : NO_CHOICES) {
            Edge.refuses("spot(0, " + n + ")", y -> y.spot(0, n), Check.BEYOND);
        }
        Edge.refuses("spot(8, 0)", y -> y.spot(8, 0), Check.BEYOND);
    }

    // ---- 21: whose

    @Says("The SITTER of whom a LIKENESS had best be, so that least is EATEN")
    static void p21_firstAndLastSitter() {
        Edge.asks(grainAt(20, "dead;dead;dead;dead;dead;dead temper 20; likeness 0 at 20"), "the last",
            y -> y.whose(0, 1), 5);
        Edge.asks(grainAt(20, "dead temper 20;dead;dead;dead;dead;dead; likeness 5 at 20"), "the first",
            y -> y.whose(0, 1), 0);
        Edge.asks(grainAt(20, "dead; likeness 0 at 20"), "the only one", y -> y.whose(0, 20), 0);
    }

    @Says("of several the least.")
    static void p21_ofSeveralTheLeast() {
        Edge.asks(grainAt(20, "dead; dead temper 30; dead temper 20; likeness 2 at 20"), "whose(0, 1)",
            y -> y.whose(0, 1), 1);
        Edge.asks(grainAt(20, "dead; dead temper 19; likeness 1 at 20"), "none will do", y -> y.whose(0, 1), 0);
    }

    @Says("ON n DAYS (1 to 20);")
    static void p21_oneDayAndTwenty() {
        Supplier<CrowLikeness> made = grainAt(20,
            "dead; stranger temper 10; sitter temper 23; sitter temper 24; likeness 0 at 20");
        Edge.asks(made, "whose(0, 1)", y -> y.whose(0, 1), 1);
        Edge.asks(made, "whose(0, 7)", y -> y.whose(0, 7), 1);
        Edge.asks(made, "whose(0, 8)", y -> y.whose(0, 8), 2);
        Edge.asks(made, "whose(0, 16)", y -> y.whose(0, 16), 2);
        Edge.asks(made, "whose(0, 17)", y -> y.whose(0, 17), 3);
        Edge.asks(made, "whose(0, 20)", y -> y.whose(0, 20), 3);
    }

    @Says("The SITTER of whom a LIKENESS had best be,")
    static void p21_whoCameJustNowToo() {
        CrowLikeness x = grainAt(20, "dead; likeness 0 at 20").get();
        Edge.due("the only one", x.whose(0, 1), 0);
        x.turn(x.sitter(3), 5);
        Edge.due("a stranger who came", x.whose(0, 1), 1);
        x.set(1, 1, 9);
        Edge.due("and is too mild", x.whose(0, 1), 0);
    }

    @Says("a LIKENESS had best be,")
    static void p21_whoHasOneAlreadyScaresOnlyOnce() {
        CrowLikeness x = grainAt(20, "dead temper 15; dead temper 5; likeness 0 at 20; likeness 0 at 20").get();
        Edge.due("15 and 5 are 20", x.whose(1, 1), 1);
        x.set(1, 1, 4);
        Edge.due("15 and 4 are 19", x.whose(1, 1), 0);
    }

    @Says("BEYOND.")
    static void p21_beyondOfLikeness() {
        Edge.refuses(CrowLikeness::new, "whose(0, 1) where none is", y -> y.whose(0, 1), Check.BEYOND);
        Edge.refuses("whose(4, 1) where four are", y -> y.whose(4, 1), Check.BEYOND);
        for (int l : Edge.outside(0, 7)) {
            Edge.refuses(BestEdges::full, "whose(" + l + ", 1)", y -> y.whose(l, 1), Check.BEYOND);
        }
    }

    @Says("BEYOND.")
    static void p21_beyondOfDays() {
        for (int n : NO_CHOICES) {
            Edge.refuses("whose(0, " + n + ")", y -> y.whose(0, n), Check.BEYOND);
        }
    }

    // ---- 22: kind

    @Says("The KIND as one of which a SITTER lets least be EATEN")
    static void p22_eachKindCanBeBest() {
        Edge.asks(grainAt(20, "lady temper 20; likeness 0 at 20"), "a sitter", y -> y.kind(0, 4), 0);
        Edge.asks(grainAt(20, "lady temper 15; likeness 0 at 20"), "a bailiff", y -> y.kind(0, 4), 1);
        Edge.asks(BestEdges::wherePartOfALadyIsBest, "one laughed at", y -> y.kind(0, 1), 2);
        Edge.asks(BestEdges::whereDrawingIsBest, "a lady", y -> y.kind(0, 1), 4);
        Edge.asks(grainAt(20, "lady temper 10; likeness 0 at 20"), "a stranger", y -> y.kind(0, 7), 5);
    }

    /** One grain at 0 is eaten rather than two of eight at 47, if the lady there draws by more than 7. */
    private static CrowLikeness wherePartOfALadyIsBest() {
        return Edge.bare("wheat 0 1; wheat 47 8; crows 1; sitter temper 16; lady temper 30; likeness 0 at 0",
            "likeness 1 at 0");
    }

    private static CrowLikeness whereDrawingIsBest() {
        return Edge.bare("wheat 0 1; wheat 47 8; crows 1; sitter temper 20; likeness 0 at 0");
    }

    @Says("The KIND as one of which")
    static void p22_theDeadAreBestOnceItIsOld() {
        CrowLikeness x = grainAt(20, "lady temper 20; likeness 0 at 20").get();
        x.place(0, 2, 20);
        Edge.due("a bailiff counts for 20 at 20 to 23", x.kind(0, 4), 1);
        Edge.due("and for 19 at 24", x.kind(0, 5), 3);
        x.place(0, 2, 364);
        Edge.due("the dead at 364", x.kind(0, 1), 3);
        x.place(0, 2, 365);
        Edge.due("none at 365", x.kind(0, 1), 0);
    }

    @Says("of several the least.")
    static void p22_ofSeveralTheLeast() {
        Edge.asks(grainAt(20, "stranger temper 30; likeness 0 at 20"), "four would do", y -> y.kind(0, 1), 0);
        Edge.asks(grainAt(20, "stranger; lady; likeness 0 at 20"), "who has none", y -> y.kind(1, 1), 0);
        Edge.asks(grainAt(20, "stranger temper 9; likeness 0 at 20"), "none would do", y -> y.kind(0, 1), 0);
    }

    @Says("ON n DAYS (1 to 20);")
    static void p22_oneDayAndTwenty() {
        Supplier<CrowLikeness> made = grainAt(20, "stranger temper 19; likeness 0 at 20");
        Edge.asks(made, "kind(0, 1)", y -> y.kind(0, 1), 1);
        Edge.asks(made, "kind(0, 19)", y -> y.kind(0, 19), 1);
        Edge.asks(made, "kind(0, 20)", y -> y.kind(0, 20), 1);
        Supplier<CrowLikeness> less = grainAt(20, "stranger temper 18; likeness 0 at 20");
        Edge.asks(less, "kind(0, 16)", y -> y.kind(0, 16), 1);
        Edge.asks(less, "kind(0, 17)", y -> y.kind(0, 17), 0);
    }

    @Says("BEYOND.")
    static void p22_beyondOfSitter() {
        Edge.refuses(CrowLikeness::new, "kind(0, 1) where none is", y -> y.kind(0, 1), Check.BEYOND);
        Edge.refuses("kind(3, 1) where three are", y -> y.kind(3, 1), Check.BEYOND);
        for (int s : Edge.outside(0, 5)) {
            Edge.refuses(BestEdges::full, "kind(" + s + ", 1)", y -> y.kind(s, 1), Check.BEYOND);
        }
    }

    @Says("BEYOND.")
    static void p22_beyondOfDays() {
        for (int n : NO_CHOICES) {
            Edge.refuses("kind(0, " + n + ")", y -> y.kind(0, n), Check.BEYOND);
        }
    }

    // ---- 23: temper

    @Says("The least TEMPER (0 to 30) with which a SITTER lets least be EATEN")
    static void p23_from0To30() {
        Edge.asks(grainAt(20, "sitter temper 30; likeness 0 at 23"), "29 at 3 off", y -> y.temper(0, 4), 29);
        Edge.asks(grainAt(20, "sitter temper 0; likeness 0 at 23"), "30 at 3 off", y -> y.temper(0, 5), 30);
        Edge.asks(grainAt(20, "sitter temper 30; likeness 0 at 23"), "30 at 3 off", y -> y.temper(0, 8), 30);
        Edge.asks(grainAt(20, "sitter temper 30; likeness 0 at 23"), "31 would do", y -> y.temper(0, 9), 0);
        Edge.asks(grainAt(20, "sitter temper 30; likeness 0 at 47"), "none would do", y -> y.temper(0, 1), 0);
    }

    @Says("The least TEMPER")
    static void p23_theLeastThatWillDo() {
        Edge.asks(grainAt(20, "dead temper 30; likeness 0 at 20"), "20", y -> y.temper(0, 20), 20);
        Edge.asks(grainAt(20, "bailiff; likeness 0 at 20"), "15", y -> y.temper(0, 1), 15);
        Edge.asks(grainAt(20, "stranger; likeness 0 at 20"), "10", y -> y.temper(0, 1), 10);
        Edge.asks(grainAt(20, "laughed; likeness 0 at 20"), "no more than 14 of it", y -> y.temper(0, 1), 0);
        Edge.asks(grainAt(20, "dead temper 30; dead temper 30; likeness 0 at 20"), "who has none",
            y -> y.temper(1, 1), 0);
        Edge.asks(() -> Edge.bare("dead temper 30; likeness 0 at 20"), "no wheat", y -> y.temper(0, 1), 0);
    }

    @Says("lets least be EATEN")
    static void p23_moreMayBeWorse() {
        Edge.asks(() -> Edge.bare("wheat 0 1; wheat 47 8; crows 1; lady temper 30; likeness 0 at 0"), "a lady's",
            y -> y.temper(0, 1), 14);
        Edge.asks(grainAt(20, "dead temper 20; lady temper 30; likeness 0 at 20; likeness 1 at 20"), "a lady's",
            y -> y.temper(1, 1), 0);
    }

    @Says("ON n DAYS (1 to 20).")
    static void p23_oneDayAndTwenty() {
        Supplier<CrowLikeness> made = grainAt(20, "sitter; likeness 0 at 20");
        Edge.asks(made, "temper(0, 1)", y -> y.temper(0, 1), 20);
        Edge.asks(made, "temper(0, 4)", y -> y.temper(0, 4), 20);
        Edge.asks(made, "temper(0, 5)", y -> y.temper(0, 5), 21);
        Edge.asks(made, "temper(0, 16)", y -> y.temper(0, 16), 23);
        Edge.asks(made, "temper(0, 17)", y -> y.temper(0, 17), 24);
        Edge.asks(made, "temper(0, 20)", y -> y.temper(0, 20), 24);
    }

    @Says("BEYOND.")
    static void p23_beyondOfSitter() {
        Edge.refuses(CrowLikeness::new, "temper(0, 1) where none is", y -> y.temper(0, 1), Check.BEYOND);
        Edge.refuses("temper(3, 1) where three are", y -> y.temper(3, 1), Check.BEYOND);
        for (int s : Edge.outside(0, 5)) {
            Edge.refuses(BestEdges::full, "temper(" + s + ", 1)", y -> y.temper(s, 1), Check.BEYOND);
        }
    }

    @Says("BEYOND.")
    static void p23_beyondOfDays() {
        for (int n : NO_CHOICES) {
            Edge.refuses("temper(0, " + n + ")", y -> y.temper(0, n), Check.BEYOND);
        }
    }

    // ---- 24: keep

    /** Eight grains, each kept by one likeness of the same one, whose others are too far off. */
    private static CrowLikeness eightGrains() {
        CrowLikeness x = Edge.bare("dead temper 20; crows 20");
        for (int l = 0; l < 8; l++) {
            x.wheat(6 * l, 1);
            x.likeness(0, 6 * l);
        }
        return x;
    }

    @Says("The set of fewest LIKENESSES")
    static void p24_noneAndAllEight() {
        Edge.asks(CrowLikeness::new, "keep(1) of none", y -> y.keep(1), 0);
        Edge.asks(() -> Edge.plain("sitter"), "keep(10) of none", y -> y.keep(10), 0);
        Edge.asks(BestEdges::eightGrains, "keep(1) of eight", y -> y.keep(1), 255);
    }

    @Says("The set of fewest LIKENESSES")
    static void p24_allButTheFirstAndAllButTheLast() {
        CrowLikeness x = eightGrains();
        x.wheat(0, 0);
        Edge.due("all but the first", x.keep(1), 254);
        x.wheat(42, 0);
        Edge.due("all but the first and the last", x.keep(1), 126);
        x.wheat(0, 1);
        Edge.due("all but the last", x.keep(1), 127);
    }

    @Says("The set of fewest LIKENESSES")
    static void p24_fewestComesBeforeLeast() {
        Edge.asks(grainAt(20, "dead; dead; dead temper 20; likeness 0 at 20; likeness 1 at 20; likeness 2 at 20"),
            "one of a greater number", y -> y.keep(1), 4);
    }

    @Says("of several the least.")
    static void p24_ofSeveralTheLeast() {
        Supplier<CrowLikeness> made = grainAt(20, "dead temper 12; dead; dead; dead temper 8; crows 3",
            "likeness 0 at 20; likeness 1 at 20; likeness 2 at 20; likeness 3 at 20");
        Edge.asks(made, "3, 5, 6 and 9 would do", y -> y.keep(1), 3);
        Supplier<CrowLikeness> other = grainAt(20, "dead temper 13; dead; dead; dead temper 7; crows 3",
            "likeness 3 at 20; likeness 1 at 20; likeness 2 at 20; likeness 0 at 20");
        Edge.asks(other, "6, 9, 10 and 12 would do", y -> y.keep(1), 6);
    }

    @Says("(of those that there are, as if the others weren't there)")
    static void p24_whoMeetsNoMoreMindsNoMore() {
        Supplier<CrowLikeness> made = grainAt(20, "dead temper 20; likeness 0 at 23; likeness 0 at 20");
        Edge.asks(made, "keep(1)", y -> y.keep(1), 2);
        Edge.asks(made, "keep(2), where all let it be eaten", y -> y.keep(2), 0);
        CrowLikeness x = Edge.bare("wheat 20 9; dead temper 20; likeness 0 at 23; likeness 0 at 20");
        Edge.due("less than with all will do", x.keep(2), 2);
    }

    @Says("(of those that there are,")
    static void p24_eachIsAsOldAsItIs() {
        CrowLikeness x = grainAt(20, "dead temper 20; likeness 0 at 20; likeness 0 at 20").get();
        x.place(0, 2, 365);
        Edge.due("the younger one", x.keep(1), 2);
        x.place(0, 2, 364);
        Edge.due("the older one, which keeps for a day still", x.keep(1), 1);
        x.place(1, 2, 365);
        Edge.due("the one that does, alone", x.keep(1), 1);
    }

    @Says("with which no more is EATEN ON n DAYS (1 to 10) than with all;")
    static void p24_oneDayAndTen() {
        Supplier<CrowLikeness> made = grainAt(20,
            "stranger; sitter temper 21; sitter temper 22; likeness 0 at 20; likeness 1 at 20; likeness 2 at 20");
        Edge.asks(made, "keep(1)", y -> y.keep(1), 1);
        Edge.asks(made, "keep(7)", y -> y.keep(7), 1);
        Edge.asks(made, "keep(8)", y -> y.keep(8), 2);
        Edge.asks(made, "keep(9)", y -> y.keep(9), 4);
        Edge.asks(made, "keep(10)", y -> y.keep(10), 4);
    }

    @Says("BEYOND.")
    static void p24_beyondOfDays() {
        for (int n : NO_KEEPS) {
            Edge.refuses("keep(" + n + ")", y -> y.keep(n), Check.BEYOND);
            Edge.refuses(CrowLikeness::new, "keep(" + n + ") of none", y -> y.keep(n), Check.BEYOND);
        }
    }

    // ---- 25: worth

    @Says("The SITTER without whose LIKENESSES most is EATEN")
    static void p25_firstAndLastSitter() {
        Edge.asks(grainAt(20, "dead;dead;dead;dead;dead;dead temper 20; likeness 5 at 20"), "the last",
            y -> y.worth(1), 5);
        Edge.asks(grainAt(20, "dead temper 20;dead;dead;dead;dead;dead; likeness 0 at 20"), "the first",
            y -> y.worth(1), 0);
    }

    @Says("The SITTER without whose LIKENESSES most is EATEN")
    static void p25_allHisAreGoneAtOnce() {
        CrowLikeness x = Edge.bare("wheat 0 1; wheat 47 1; wheat 20 1; dead temper 20; dead temper 20; crows 20");
        Check.plainOf(x, "likeness 0 at 20; likeness 1 at 0; likeness 1 at 47");
        Edge.due("two grains rather than one", x.worth(1), 1);
        x.wheat(20, 3);
        Edge.due("three grains rather than two", x.worth(1), 0);
    }

    @Says("The SITTER without whose LIKENESSES")
    static void p25_theOthersAreAsOldAsTheyAre() {
        CrowLikeness x = grainAt(20, "dead temper 20; dead temper 20; likeness 0 at 20; likeness 1 at 20").get();
        x.place(1, 2, 365);
        Edge.due("the younger one's keeps it alone", x.worth(1), 0);
        x.place(1, 2, 364);
        Edge.due("the older one's does for a day still", x.worth(1), Check.NONE);
        Edge.due("and not for two", x.worth(2), 0);
    }

    @Says("of several the least.")
    static void p25_ofSeveralTheLeast() {
        CrowLikeness x = Edge.bare("wheat 0 1; wheat 47 1; dead; dead temper 20; dead temper 20; crows 20");
        Check.plainOf(x, "likeness 2 at 0; likeness 1 at 47");
        Edge.due("worth(1)", x.worth(1), 1);
    }

    @Says("more than as it is;")
    static void p25_asMuchAsItIsIsNotMore() {
        Edge.refuses(grainAt(20, "dead temper 20; dead temper 20; likeness 0 at 20; likeness 1 at 20"),
            "each alone would do", y -> y.worth(1), Check.NONE);
        Edge.refuses(grainAt(20, "dead temper 19; likeness 0 at 20"), "it is eaten as it is", y -> y.worth(1),
            Check.NONE);
        Edge.refuses(grainAt(20, "dead temper 30; likeness 0 at 20; crows 0"), "no crows", y -> y.worth(20),
            Check.NONE);
    }

    @Says("more than as it is;")
    static void p25_lessThanAsItIsIsNotMore() {
        Edge.refuses(grainAt(20, "dead temper 20; lady; likeness 0 at 20; likeness 1 at 20"),
            "without the lady it is kept", y -> y.worth(1), Check.NONE);
    }

    @Says("NONE.")
    static void p25_noneWhereNoneIs() {
        Edge.refuses(CrowLikeness::new, "worth(1)", y -> y.worth(1), Check.NONE);
        Edge.refuses(() -> Edge.plain("sitter temper 30"), "worth(20)", y -> y.worth(20), Check.NONE);
    }

    @Says("ON n DAYS (1 to 20),")
    static void p25_oneDayAndTwenty() {
        Supplier<CrowLikeness> of24 = grainAt(20, "sitter temper 24; likeness 0 at 20");
        Edge.asks(of24, "worth(1)", y -> y.worth(1), 0);
        Edge.asks(of24, "worth(20)", y -> y.worth(20), 0);
        Supplier<CrowLikeness> of23 = grainAt(20, "sitter temper 23; likeness 0 at 20");
        Edge.asks(of23, "worth(16)", y -> y.worth(16), 0);
        Edge.refuses(of23, "worth(17)", y -> y.worth(17), Check.NONE);
    }

    @Says("BEYOND. NONE.")
    static void p25_beyondIsAskedBeforeNone() {
        for (int n : NO_CHOICES) {
            Edge.refuses("worth(" + n + ")", y -> y.worth(n), Check.BEYOND);
            Edge.refuses(CrowLikeness::new, "worth(" + n + ") of none", y -> y.worth(n), Check.BEYOND);
        }
    }

    // ---- 26: apart

    private static void apart(String text, int likeness, int due) {
        Edge.asks(() -> Edge.plain("sitter; sitter; " + text), text, y -> y.apart(likeness), due);
    }

    @Says("The CELL to which a LIKENESS had best be moved, so that its SITTER MEETS itself least;")
    static void p26_staysWhereItMeetsNone() {
        apart("likeness 0 at 0", 0, 0);
        apart("likeness 0 at 47", 0, 47);
        apart("likeness 0 at 47; likeness 1 at 47", 1, 47);
        apart("likeness 0 at 7; likeness 0 at 8", 0, 7);
        apart("likeness 0 at 0; likeness 0 at 0; likeness 0 at 47", 2, 47);
    }

    @Says("of several the nearest to where it is,")
    static void p26_nearestFromTheCorners() {
        apart("likeness 0 at 0; likeness 0 at 0", 1, 9);
        apart("likeness 0 at 7; likeness 0 at 7", 1, 14);
        apart("likeness 0 at 40; likeness 0 at 40", 1, 33);
        apart("likeness 0 at 47; likeness 0 at 47", 1, 38);
        apart("likeness 0 at 0; likeness 0 at 7", 0, 8);
        apart("likeness 0 at 0; likeness 0 at 40", 0, 1);
        apart("likeness 0 at 40; likeness 0 at 47", 1, 39);
    }

    @Says("The CELL to which a LIKENESS had best be moved,")
    static void p26_toTheFirstAndTheLastCell() {
        apart("likeness 0 at 1; likeness 0 at 41", 0, 0);
        apart("likeness 0 at 46; likeness 0 at 6; likeness 0 at 13", 0, 47);
    }

    @Says("CELLS 0 to 47,")
    static void p26_noCellBehindTheLastIsTried() {
        apart("likeness 0 at 40; likeness 0 at 41; likeness 0 at 34", 0, 24);
    }

    @Says("then the least.")
    static void p26_ofThoseAsNearTheLeast() {
        apart("likeness 0 at 20; likeness 0 at 20", 0, 11);
        apart("likeness 0 at 20; likeness 0 at 22", 0, 12);
        apart("likeness 0 at 20; likeness 0 at 36", 0, 19);
    }

    @Says("so that its SITTER MEETS itself least;")
    static void p26_leastMayBeMoreThanNone() {
        CrowLikeness x = Edge.plain("sitter; likeness 0 at 0; likeness 0 at 9; likeness 0 at 18; likeness 0 at 27");
        Check.plainOf(x, "likeness 0 at 36; likeness 0 at 45; likeness 0 at 45; likeness 0 at 45");
        Edge.due("every row has one: at 6 columns off it meets that alone", x.apart(7), 36);
    }

    @Says("so that its SITTER MEETS itself least;")
    static void p26_asItIsAndNotAsItWas() {
        CrowLikeness x = Edge.plain("sitter; sitter; likeness 0 at 0; likeness 0 at 0");
        Edge.due("it meets another", x.apart(1), 9);
        x.place(1, 1, 1);
        Edge.due("once it is of another one", x.apart(1), 0);
        x.likeness(1, 0);
        Edge.due("once he has two there", x.apart(1), 9);
        Edge.due("and the other of these", x.apart(2), 9);
        x.place(2, 0, 9);
        Edge.due("once it is elsewhere", x.apart(1), 0);
        x.place(1, 1, 0);
        Edge.due("once it is of the first again", x.apart(1), 9);
    }

    @Says("so that its SITTER MEETS itself least;")
    static void p26_allEightInTheLastCell() {
        CrowLikeness x = Edge.plain("sitter");
        for (int l = 0; l < 8; l++) {
            x.likeness(0, 47);
        }
        Edge.due("apart(7)", x.apart(7), 38);
        Edge.due("apart(0)", x.apart(0), 38);
    }

    @Says("BEYOND.")
    static void p26_beyondOfLikeness() {
        Edge.refuses(CrowLikeness::new, "apart(0) where none is", y -> y.apart(0), Check.BEYOND);
        Edge.refuses("apart(4) where four are", y -> y.apart(4), Check.BEYOND);
        for (int l : Edge.outside(0, 7)) {
            Edge.refuses(BestEdges::full, "apart(" + l + ")", y -> y.apart(l), Check.BEYOND);
        }
    }

    // ---- 27: swap

    /** Who keeps the grain at 47 has his likeness elsewhere, and another's is there. */
    private static CrowLikeness misplaced(int there, int elsewhere) {
        CrowLikeness x = Edge.bare("wheat 47 1; dead temper 0; dead temper 20");
        for (int l = 0; l < 8; l++) {
            x.likeness(l == elsewhere ? 1 : 0, l == there ? 47 : l);
        }
        return x;
    }

    @Says("Two LIKENESSES that had best change places,")
    static void p27_firstPairAndLastPair() {
        Edge.asks(() -> misplaced(0, 1), "swap(1)", y -> y.swap(1), 1);
        Edge.asks(() -> misplaced(1, 0), "swap(1)", y -> y.swap(1), 1);
        Edge.asks(() -> misplaced(0, 7), "swap(1)", y -> y.swap(1), 7);
        Edge.asks(() -> misplaced(6, 7), "swap(1)", y -> y.swap(1), 67);
    }

    @Says("10 times the lesser and the other one;")
    static void p27_theLesserComesFirst() {
        Edge.asks(() -> misplaced(7, 6), "swap(1)", y -> y.swap(1), 67);
        Edge.asks(() -> misplaced(5, 2), "swap(1)", y -> y.swap(1), 25);
    }

    @Says("so that less is EATEN ON n DAYS (1 to 20) than as it is,")
    static void p27_asMuchAsItIsIsNotLess() {
        Edge.refuses(grainAt(20, "dead temper 20; dead temper 20; likeness 0 at 20; likeness 1 at 0"),
            "it is best as it is", y -> y.swap(1), Check.NONE);
        Edge.refuses(grainAt(20, "dead temper 19; dead temper 19; likeness 0 at 20; likeness 1 at 0"),
            "neither will do", y -> y.swap(1), Check.NONE);
    }

    @Says("and least:")
    static void p27_theLeastOfThoseThatAreLess() {
        CrowLikeness x = Edge.bare("wheat 20 2; wheat 47 3; dead temper 20; dead temper 0; crows 20");
        Check.plainOf(x, "likeness 0 at 0; likeness 1 at 20; likeness 1 at 47");
        Edge.due("3 are kept rather than 2", x.swap(1), 2);
        x.wheat(20, 4);
        Edge.due("4 are kept rather than 3", x.swap(1), 1);
    }

    @Says("of several the least.")
    static void p27_ofSeveralTheLeast() {
        CrowLikeness x = Edge.bare("wheat 20 2; wheat 47 2; dead temper 20; dead temper 0; crows 20");
        Check.plainOf(x, "likeness 0 at 0; likeness 1 at 20; likeness 1 at 47");
        Edge.due("1 and 2 would do", x.swap(1), 1);
        x = Edge.bare("wheat 47 1; dead temper 20; dead temper 0; crows 20");
        Check.plainOf(x, "likeness 1 at 9; likeness 0 at 0; likeness 0 at 18; likeness 1 at 47");
        Edge.due("13 and 23 would do", x.swap(1), 13);
    }

    @Says("change places,")
    static void p27_agesGoWithThem() {
        CrowLikeness x = Edge.bare("wheat 47 1; dead temper 20; likeness 0 at 47; likeness 0 at 0");
        x.place(0, 2, 365);
        Edge.due("the younger one will do", x.swap(1), 1);
        x.place(1, 2, 365);
        Edge.due("neither will do", x.swap(1), Check.NONE);
    }

    @Says("NONE.")
    static void p27_noneWhereNoTwoAre() {
        Edge.refuses(CrowLikeness::new, "no likeness", y -> y.swap(1), Check.NONE);
        Edge.refuses(grainAt(20, "dead temper 30; likeness 0 at 0"), "one likeness", y -> y.swap(20), Check.NONE);
    }

    @Says("ON n DAYS (1 to 20)")
    static void p27_oneDayAndTwenty() {
        Supplier<CrowLikeness> of24 =
            grainAt(20, "sitter temper 24; sitter temper 0; likeness 0 at 0; likeness 1 at 20");
        Edge.asks(of24, "swap(1)", y -> y.swap(1), 1);
        Edge.asks(of24, "swap(20)", y -> y.swap(20), 1);
        Supplier<CrowLikeness> of23 =
            grainAt(20, "sitter temper 23; sitter temper 0; likeness 0 at 0; likeness 1 at 20");
        Edge.asks(of23, "swap(16)", y -> y.swap(16), 1);
        Edge.refuses(of23, "swap(17)", y -> y.swap(17), Check.NONE);
    }

    @Says("BEYOND. NONE.")
    static void p27_beyondIsAskedBeforeNone() {
        for (int n : NO_CHOICES) {
            Edge.refuses("swap(" + n + ")", y -> y.swap(n), Check.BEYOND);
            Edge.refuses(CrowLikeness::new, "swap(" + n + ") of none", y -> y.swap(n), Check.BEYOND);
        }
    }
}
