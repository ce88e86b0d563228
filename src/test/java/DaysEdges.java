/** Boundary cases of promises 14 to 19: lands, days, now, on, eaten, first. */
final class DaysEdges {
    private static final int[] NO_LOOKS = {-1, 61, 65536, Integer.MIN_VALUE, Integer.MAX_VALUE};

    private DaysEdges() {
    }

    /** Wheat of 9 at cell 20 alone, with a likeness of one who is dead there, as old as told. */
    private static CrowLikeness deadAt20(int temper, int age) {
        CrowLikeness x = Edge.bare("wheat 20 9; dead; likeness 0 at 20");
        x.set(0, 1, temper);
        x.place(0, 2, age);
        return x;
    }

    private static CrowLikeness lastDay() {
        return Edge.atDay(9999);
    }

    // ---- 14: lands

    @Says({"Where a crow LANDS now. NONE: on none.", "on none, if there is none such."})
    static void p14_onNoneWithoutWheat() {
        Edge.refuses(Edge::bare, "lands()", y -> y.lands(), Check.NONE);
    }

    @Says("LANDS: a crow lands AT the CELL, of those that have WHEAT")
    static void p14_oneGrainIsWheat() {
        CrowLikeness x = Edge.bare();
        x.wheat(47, 1);
        Edge.due("lands()", x.lands(), 47);
        x.wheat(47, 0);
        Edge.due("lands()", x.lands(), Check.NONE);
    }

    @Says("and a FEAR below 20,")
    static void p14_fearOf19LetsInAndOf20Not() {
        CrowLikeness x = deadAt20(19, 0);
        Edge.due("fear 19", x.lands(), 20);
        x.set(0, 1, 20);
        Edge.due("fear 20", x.lands(), Check.NONE);
        x.set(0, 1, 21);
        Edge.due("fear 21", x.lands(), Check.NONE);
        x.wheat(20, 99);
        Edge.due("fear 21, though there is the most wheat", x.lands(), Check.NONE);
    }

    @Says("NONE: on none.")
    static void p14_onNoneWhereAllIsFeared() {
        CrowLikeness x = Edge.plain("bailiff temper 27; likeness 0 at 0");
        Edge.due("fear of 20 at the farthest", x.lands(), Check.NONE);
        x.set(0, 1, 26);
        Edge.due("fear of 19 at the farthest", x.lands(), 47);
    }

    @Says("where WHEAT less FEAR is most;")
    static void p14_wheatLessFearMayBeBelow0() {
        CrowLikeness x = deadAt20(19, 0);
        x.wheat(20, 1);
        Edge.due("-18 is most where it is alone", x.lands(), 20);
        x.wheat(21, 1);
        Edge.due("-15 is more", x.lands(), 21);
    }

    @Says("of several the least;")
    static void p14_ofSeveralTheLeast() {
        CrowLikeness x = new CrowLikeness();
        Edge.due("all alike", x.lands(), 0);
        x.wheat(0, 9);
        Edge.due("all but the first", x.lands(), 1);
        x = Edge.bare("wheat 20 15; wheat 46 5 to 47; dead; likeness 0 at 20");
        Edge.due("15 less 10 is as much as 5", x.lands(), 20);
        x.wheat(46, 6);
        Edge.due("6 is more", x.lands(), 46);
    }

    @Says("(it draws).")
    static void p14_aLadyDrawsByAsMuchAsItIsBelow0() {
        CrowLikeness x = Edge.bare("wheat 0 15; wheat 47 1; lady temper 30; likeness 0 at 47");
        Edge.due("1 and 15 are more than 15", x.lands(), 47);
        x.wheat(0, 16);
        Edge.due("of two alike the least", x.lands(), 0);
    }

    @Says("Where a crow LANDS now.")
    static void p14_thoughNoCrowsCome() {
        CrowLikeness x = new CrowLikeness();
        x.crows(0);
        Edge.due("lands()", x.lands(), 0);
        Edge.asks("lands()", y -> y.lands(), Edge.rich().lands());
    }

    // ---- 15: days

    @Says("n DAYS go (1 to 60): how much was EATEN.")
    static void p15_oneDayAndSixty() {
        CrowLikeness x = new CrowLikeness();
        Edge.due("days(1)", x.days(1), 6);
        Edge.due("now(0)", x.now(0), 1);
        Edge.due("days(60)", x.days(60), 360);
        Edge.due("now(0)", x.now(0), 61);
        Edge.due("now(2)", x.now(2), 114);
    }

    @Says("BEYOND.")
    static void p15_beyondOfDays() {
        Edge.refuses("days(0)", y -> y.days(0), Check.BEYOND);
        for (int n : NO_LOOKS) {
            Edge.refuses("days(" + n + ")", y -> y.days(n), Check.BEYOND);
        }
    }

    @Says({"STATE: DAY would be above 9999.", "(9999 at most)."})
    static void p15_upToTheLastDay() {
        CrowLikeness x = Edge.atDay(9940);
        Edge.due("60 from 9940", x.days(60), Check.STATE);
        Edge.due("now(0)", x.now(0), 9940);
        Edge.due("59 from 9940", x.days(59), 354);
        Edge.due("now(0)", x.now(0), 9999);
        x = Edge.atDay(9939);
        Edge.due("60 from 9939", x.days(60), 360);
        Edge.due("now(0)", x.now(0), 9999);
    }

    @Says("STATE: DAY would be above 9999.")
    static void p15_noneBehindTheLastDay() {
        Edge.refuses(DaysEdges::lastDay, "days(1)", y -> y.days(1), Check.STATE);
        Edge.refuses(DaysEdges::lastDay, "days(60)", y -> y.days(60), Check.STATE);
    }

    @Says("BEYOND. STATE:")
    static void p15_beyondIsAskedBeforeState() {
        Edge.refuses(DaysEdges::lastDay, "days(0)", y -> y.days(0), Check.BEYOND);
        Edge.refuses(DaysEdges::lastDay, "days(61)", y -> y.days(61), Check.BEYOND);
        Edge.refuses(DaysEdges::lastDay, "days(MAX)", y -> y.days(Integer.MAX_VALUE), Check.BEYOND);
    }

    @Says("It EATS 2 there (or what there is).")
    static void p15_eats2OrWhatThereIs() {
        CrowLikeness x = Edge.bare("wheat 5 3; crows 1");
        Edge.due("2 of 3", x.days(1), 2);
        Edge.due("1 is left", x.cell(5, 0), 1);
        Edge.due("1 of 1", x.days(1), 1);
        Edge.due("0 are left", x.cell(5, 0), 0);
        Edge.due("0 of 0", x.days(1), 0);
        x.wheat(5, 2);
        Edge.due("2 of 2", x.days(1), 2);
    }

    @Says("A DAY goes: each crow, one after the other, LANDS and EATS")
    static void p15_eachCrowFindsWhatTheOthersLeft() {
        CrowLikeness x = Edge.bare("wheat 0 4; wheat 1 3; crows 2");
        Edge.due("days(1)", x.days(1), 4);
        Edge.due("the first crow's", x.cell(0, 0), 2);
        Edge.due("the second crow's", x.cell(1, 0), 1);
        x.crows(20);
        Edge.due("20 crows, and 3 to eat", x.days(1), 3);
    }

    @Says("CROWS (0 to 20;")
    static void p15_noCrowsAndTwenty() {
        CrowLikeness x = Edge.plain("dead temper 30; likeness 0 at 0; likeness 0 at 7; crows 0");
        Edge.due("no crows", x.days(1), 0);
        Edge.due("a day goes", x.now(0), 1);
        Edge.due("it is a day older", x.told(0, 2), 1);
        Edge.due("he minds", x.of(0, 1), 29);
        x.crows(20);
        Edge.due("20 crows", x.days(1), 40);
        Edge.due("20 crows, 2 days", x.days(2), 80);
    }

    @Says("(FEAR as the DAY began).")
    static void p15_fearIsAsTheDayBegan() {
        CrowLikeness x = deadAt20(20, 0);
        x.likeness(0, 23);
        Edge.due("20 as it began", x.days(1), 0);
        Edge.due("19 as it ended", x.of(0, 1), 19);
        Edge.due("19 as the next began", x.days(1), 6);
    }

    @Says("(FEAR as the DAY began).")
    static void p15_ageCountsFromTheDayThatBegins() {
        CrowLikeness x = deadAt20(20, 363);
        Edge.due("at 363 and 364", x.days(2), 0);
        Edge.due("at 365", x.days(1), 6);
        x = deadAt20(20, 5);
        x.turn(0, 5);
        Edge.due("a stranger at 5 and 6", x.days(2), 0);
        Edge.due("a stranger at 7", x.days(1), 6);
        x = deadAt20(20, 2);
        x.turn(0, 0);
        Edge.due("a sitter at 2 and 3", x.days(2), 0);
        Edge.due("a sitter at 4", x.days(1), 6);
    }

    @Says("Then of each SITTER TEMPER is 1 less (0 at least) for each two LIKENESSES of it that MEET.")
    static void p15_temperIs1LessForEachTwo() {
        CrowLikeness x = Edge.plain("sitter temper 30; sitter temper 30; likeness 0 at 0; likeness 0 at 7");
        Check.plainOf(x, "likeness 1 at 0; likeness 1 at 1; likeness 1 at 2; likeness 1 at 27");
        x.days(1);
        Edge.due("one pair", x.of(0, 1), 29);
        Edge.due("three pairs, and one apart", x.of(1, 1), 27);
        x.days(2);
        Edge.due("one pair, three days", x.of(0, 1), 27);
        Edge.due("three pairs, three days", x.of(1, 1), 21);
    }

    @Says("(0 at least)")
    static void p15_temperIs0AtLeast() {
        CrowLikeness x = Edge.plain("sitter temper 28; sitter");
        for (int l = 0; l < 8; l++) {
            x.likeness(0, 47);
        }
        x.days(1);
        Edge.due("28 less 28", x.of(0, 1), 0);
        x.days(1);
        Edge.due("0 less 28", x.of(0, 1), 0);
        x.set(0, 1, 27);
        x.days(1);
        Edge.due("27 less 28", x.of(0, 1), 0);
        x.set(0, 1, 30);
        x.days(1);
        Edge.due("30 less 28", x.of(0, 1), 2);
        Edge.due("who has none keeps his", x.of(1, 1), 10);
    }

    @Says({"AGES are 1 more.", "held to 9999)."})
    static void p15_agesAreHeldTo9999() {
        CrowLikeness x = Edge.plain("sitter; likeness 0 at 0; likeness 0 at 9");
        x.place(0, 2, 9998);
        x.days(1);
        Edge.due("9998 and 1", x.told(0, 2), 9999);
        Edge.due("0 and 1", x.told(1, 2), 1);
        x.days(1);
        Edge.due("9999 and 1", x.told(0, 2), 9999);
        x.days(60);
        Edge.due("9999 and 60", x.told(0, 2), 9999);
        Edge.due("2 and 60", x.told(1, 2), 62);
    }

    @Says("DAY is 1 more.")
    static void p15_dayIs1More() {
        CrowLikeness x = Edge.atDay(9998);
        x.days(1);
        Edge.due("now(0)", x.now(0), 9999);
    }

    // ---- 16: now

    @Says("What 0 DAY,")
    static void p16_firstAndLastDay() {
        Edge.asks(CrowLikeness::new, "now(0)", y -> y.now(0), 0);
        Edge.asks(DaysEdges::lastDay, "now(0)", y -> y.now(0), 9999);
    }

    @Says("1 CROWS,")
    static void p16_noCrowsAndTwenty() {
        Edge.asks(() -> Edge.plain("crows 0"), "now(1)", y -> y.now(1), 0);
        Edge.asks(() -> Edge.plain("crows 20"), "now(1)", y -> y.now(1), 20);
    }

    @Says("2 WHEAT of all CELLS,")
    static void p16_noWheatAndTheMost() {
        Edge.asks(Edge::bare, "now(2)", y -> y.now(2), 0);
        Edge.asks(() -> Edge.plain("wheat 0 99 to 47"), "now(2)", y -> y.now(2), 4752);
        Edge.asks(() -> Edge.bare("wheat 0 1; wheat 47 2"), "now(2)", y -> y.now(2), 3);
    }

    @Says("3 FEES of all SITTERS that have a LIKENESS,")
    static void p16_feesOfNoneAndOfSix() {
        CrowLikeness x = Edge.plain("dead fee 99;dead fee 99;dead fee 99;dead fee 99;dead fee 99;dead fee 99");
        Edge.due("none has a likeness", x.now(3), 0);
        x.likeness(5, 0);
        Edge.due("one has", x.now(3), 99);
        x.likeness(5, 1);
        Edge.due("one has two", x.now(3), 99);
        for (int s = 0; s < 5; s++) {
            x.likeness(s, s);
        }
        Edge.due("all have", x.now(3), 594);
        x.set(0, 2, 0);
        Edge.due("one asks for nothing", x.now(3), 495);
    }

    @Says("4 CELLS whose FEAR is 20 or more: how many,")
    static void p16_fearOf20IsCountedAndOf19Not() {
        CrowLikeness x = Edge.bare("dead temper 19; likeness 0 at 0");
        Edge.due("19", x.now(4), 0);
        x.set(0, 1, 20);
        Edge.due("20", x.now(4), 1);
        x.set(0, 1, 22);
        Edge.due("22, and 19 beside", x.now(4), 1);
        x.set(0, 1, 23);
        Edge.due("23, and 20 beside", x.now(4), 3);
    }

    @Says("4 CELLS whose FEAR is 20 or more: how many,")
    static void p16_noCellIsFearedOrAllAre() {
        Edge.asks(CrowLikeness::new, "now(4)", y -> y.now(4), 0);
        Edge.asks(() -> Edge.plain("bailiff temper 26; likeness 0 at 0"), "now(4)", y -> y.now(4), 47);
        Edge.asks(() -> Edge.plain("bailiff temper 27; likeness 0 at 0"), "now(4)", y -> y.now(4), 48);
    }

    @Says("5 SITTERS who MEET themselves, as a set.")
    static void p16_setOfNoneOfTheFirstAndOfTheLast() {
        CrowLikeness x = Edge.plain("sitter;sitter;sitter;sitter;sitter;sitter; likeness 0 at 0; likeness 5 at 0");
        Edge.due("none", x.now(5), 0);
        x.likeness(5, 7);
        Edge.due("the last", x.now(5), 32);
        x.likeness(0, 40);
        Edge.due("the last and the first", x.now(5), 33);
        x.place(2, 0, 9);
        Edge.due("the first", x.now(5), 1);
        Check.plainOf(x, "likeness 2 at 3; likeness 2 at 3; likeness 4 at 3; likeness 4 at 3");
        Edge.due("three of six", x.now(5), 21);
    }

    @Says("BEYOND.")
    static void p16_beyondOfWhat() {
        for (int what : Edge.outside(0, 5)) {
            Edge.refuses("now(" + what + ")", y -> y.now(what), Check.BEYOND);
        }
    }

    // ---- 17: on

    @Says({"WHEAT of a CELL ON n DAYS (0 to 60).", "ON: n DAYS go on with all as it is; nothing changes."})
    static void p17_noDaysAndSixty() {
        Edge.asks(CrowLikeness::new, "on(0, 0)", y -> y.on(0, 0), 10);
        Edge.asks(CrowLikeness::new, "on(0, 1)", y -> y.on(0, 1), 8);
        Edge.asks(CrowLikeness::new, "on(0, 60)", y -> y.on(0, 60), 2);
        Edge.asks(CrowLikeness::new, "on(47, 15)", y -> y.on(47, 15), 10);
        Edge.asks(CrowLikeness::new, "on(47, 16)", y -> y.on(47, 16), 8);
        Edge.asks("on(12, 0)", y -> y.on(12, 0), 40);
    }

    @Says("nothing changes.")
    static void p17_changesNothing() {
        Edge.leaves("on(0, 60)", y -> y.on(0, 60));
    }

    @Says("n DAYS go on with all as it is; nothing changes.")
    static void p17_agesAndTempersGoOnToo() {
        Edge.asks(() -> deadAt20(20, 306), "on(20, 59)", y -> y.on(20, 59), 9);
        Edge.asks(() -> deadAt20(20, 306), "on(20, 60)", y -> y.on(20, 60), 3);
        Edge.asks(DaysEdges::whoMinds, "on(20, 11)", y -> y.on(20, 11), 9);
        Edge.asks(DaysEdges::whoMinds, "on(20, 12)", y -> y.on(20, 12), 3);
        Edge.asks(DaysEdges::whoMinds, "on(20, 60)", y -> y.on(20, 60), 0);
    }

    /** Temper 30 is 20 on the 11th day, and 19 on the 12th. */
    private static CrowLikeness whoMinds() {
        CrowLikeness x = deadAt20(30, 0);
        x.likeness(0, 23);
        return x;
    }

    @Says("ON: n DAYS go on with all as it is; nothing changes.")
    static void p17_goesOnBehindTheLastDay() {
        Edge.asks(DaysEdges::lastDay, "on(0, 60)", y -> y.on(0, 60), 2);
        Edge.asks(DaysEdges::lastDay, "on(0, 1)", y -> y.on(0, 1), 8);
    }

    @Says("BEYOND.")
    static void p17_beyondOfCell() {
        for (int cell : Edge.outside(0, 47)) {
            Edge.refuses("on(" + cell + ", 1)", y -> y.on(cell, 1), Check.BEYOND);
            Edge.refuses("on(" + cell + ", 0)", y -> y.on(cell, 0), Check.BEYOND);
        }
    }

    @Says("BEYOND.")
    static void p17_beyondOfDays() {
        for (int n : NO_LOOKS) {
            Edge.refuses("on(5, " + n + ")", y -> y.on(5, n), Check.BEYOND);
        }
        Edge.refuses("on(48, 61)", y -> y.on(48, 61), Check.BEYOND);
    }

    // ---- 18: eaten

    @Says({"How much is EATEN ON n DAYS (0 to 60).", "EATEN: how much WHEAT is less by then."})
    static void p18_noDaysAndSixty() {
        Edge.asks(CrowLikeness::new, "eaten(0)", y -> y.eaten(0), 0);
        Edge.asks(CrowLikeness::new, "eaten(1)", y -> y.eaten(1), 6);
        Edge.asks(CrowLikeness::new, "eaten(60)", y -> y.eaten(60), 360);
        Edge.asks("eaten(0)", y -> y.eaten(0), 0);
    }

    @Says("nothing changes.")
    static void p18_changesNothing() {
        Edge.leaves("eaten(60)", y -> y.eaten(60));
    }

    @Says("EATEN: how much WHEAT is less by then.")
    static void p18_nothingAllAndTheMost() {
        Edge.asks(Edge::bare, "eaten(60)", y -> y.eaten(60), 0);
        Edge.asks(() -> Edge.plain("crows 0"), "eaten(60)", y -> y.eaten(60), 0);
        Edge.asks(() -> Edge.bare("wheat 47 1"), "eaten(60)", y -> y.eaten(60), 1);
        Edge.asks(() -> Edge.plain("crows 20"), "eaten(12)", y -> y.eaten(12), 480);
        Edge.asks(() -> Edge.plain("crows 20"), "eaten(60)", y -> y.eaten(60), 480);
        Edge.asks(() -> Edge.plain("crows 20; wheat 0 99 to 47"), "eaten(60)", y -> y.eaten(60), 2400);
    }

    @Says("How much is EATEN ON n DAYS")
    static void p18_behindTheLastDay() {
        Edge.asks(DaysEdges::lastDay, "eaten(60)", y -> y.eaten(60), 360);
    }

    @Says("BEYOND.")
    static void p18_beyondOfDays() {
        for (int n : NO_LOOKS) {
            Edge.refuses("eaten(" + n + ")", y -> y.eaten(n), Check.BEYOND);
        }
    }

    // ---- 19: first

    @Says("In how many DAYS (0 to 60) ON WHEAT of a CELL is less than now first.")
    static void p19_onTheFirstDayAndOnThe60th() {
        Edge.asks(CrowLikeness::new, "first(0)", y -> y.first(0), 1);
        Edge.asks(CrowLikeness::new, "first(2)", y -> y.first(2), 1);
        Edge.asks(CrowLikeness::new, "first(3)", y -> y.first(3), 2);
        Edge.asks(CrowLikeness::new, "first(47)", y -> y.first(47), 16);
        Edge.asks(() -> deadAt20(20, 306), "first(20)", y -> y.first(20), 60);
    }

    @Says("nothing changes.")
    static void p19_changesNothing() {
        Edge.leaves("first(8)", y -> y.first(8));
    }

    @Says("NONE.")
    static void p19_the61stIsNone() {
        Edge.refuses(() -> deadAt20(20, 305), "first(20)", y -> y.first(20), Check.NONE);
    }

    @Says("NONE.")
    static void p19_noneWhereNoneCanBeLess() {
        Edge.refuses(Edge::bare, "first(0)", y -> y.first(0), Check.NONE);
        Edge.refuses(() -> Edge.plain("wheat 47 0"), "first(47)", y -> y.first(47), Check.NONE);
        Edge.refuses(() -> Edge.plain("crows 0"), "first(0)", y -> y.first(0), Check.NONE);
    }

    @Says("is less than now first.")
    static void p19_oneGrainLessIsLess() {
        Edge.asks(() -> Edge.bare("wheat 47 1"), "first(47)", y -> y.first(47), 1);
        Edge.asks(() -> Edge.bare("wheat 46 99; wheat 47 1; crows 1"), "first(47)", y -> y.first(47), 51);
    }

    @Says("ON: n DAYS go on with all as it is;")
    static void p19_asItIsAndNotAsItWas() {
        CrowLikeness x = deadAt20(20, 0);
        Edge.due("kept", x.first(20), Check.NONE);
        x.place(0, 0, 47);
        Edge.due("once it stands elsewhere", x.first(20), 1);
        x.place(0, 0, 20);
        x.turn(0, 2);
        Edge.due("once he is laughed at", x.first(20), 1);
        x.turn(0, 3);
        Edge.due("once he is dead again", x.first(20), Check.NONE);
        x.likeness(0, 23);
        Edge.due("once he minds", x.first(20), 2);
    }

    @Says("In how many DAYS (0 to 60) ON")
    static void p19_behindTheLastDay() {
        Edge.asks(DaysEdges::lastDay, "first(47)", y -> y.first(47), 16);
    }

    @Says("BEYOND. NONE.")
    static void p19_beyondIsAskedBeforeNone() {
        for (int cell : Edge.outside(0, 47)) {
            Edge.refuses(Edge::bare, "first(" + cell + ")", y -> y.first(cell), Check.BEYOND);
        }
    }
}
