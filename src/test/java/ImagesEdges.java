import java.util.function.ToLongFunction;

/** Boundary cases of promises 37 to 41: image, undo, tear, count, status. */
final class ImagesEdges {
    private ImagesEdges() {
    }

    // ---- 37: image

    @Says("All that section 1 tells (THE TAPE not) is kept: 1.")
    static void p37_ofNothingAndOfAllThatCanBe() {
        CrowLikeness x = new CrowLikeness();
        Edge.due("image() of a new one", x.image(), 1);
        fillUp(x);
        Edge.due("undo()", x.undo(), 0);
        Edge.holds("it is as new", Check.stateOf(x).equals(Check.stateOf(new CrowLikeness())));
        x = new CrowLikeness();
        fillUp(x);
        String full = Check.stateOf(x);
        Edge.due("image() of a full one", x.image(), 1);
        x.crows(0);
        Edge.due("undo()", x.undo(), 6);
        Edge.holds("it is as full as it was", full.equals(Check.stateOf(x)));
    }

    private static void fillUp(CrowLikeness x) {
        Check.plainOf(x, "sitter temper 30 fee 99;dead;lady;stranger;bailiff;laughed temper 0 fee 0;crows 20");
        for (int l = 0; l < 8; l++) {
            x.likeness(5 - l % 6, 47 - l);
            x.place(l, 2, 9999 - l);
        }
        x.wheat(0, 99);
        x.wheat(47, 0);
        x.days(3);
    }

    private static void kept(String call, ToLongFunction<CrowLikeness> act) {
        CrowLikeness x = Edge.rich();
        CrowLikeness twin = Edge.rich();
        x.image();
        twin.image();
        act.applyAsLong(x);
        Edge.holds(call + " changes something", !Check.stateOf(x).equals(Check.stateOf(twin)));
        Edge.due("undo() behind " + call, x.undo(), 3);
        Edge.holds("what " + call + " changed is as it was", Check.stateOf(x).equals(Check.stateOf(twin)));
    }

    @Says("All that section 1 tells")
    static void p37_eachPartOfIt() {
        kept("wheat(0, 99)", y -> y.wheat(0, 99));
        kept("wheat(47, 0)", y -> y.wheat(47, 0));
        kept("crows(0)", y -> y.crows(0));
        kept("sitter(5)", y -> y.sitter(5));
        kept("set(0, 1, 30)", y -> y.set(0, 1, 30));
        kept("set(2, 2, 99)", y -> y.set(2, 2, 99));
        kept("turn(2, 0)", y -> y.turn(2, 0));
        kept("likeness(0, 47)", y -> y.likeness(0, 47));
        kept("place(3, 0, 0)", y -> y.place(3, 0, 0));
        kept("place(3, 1, 2)", y -> y.place(3, 1, 2));
        kept("place(0, 2, 9999)", y -> y.place(0, 2, 9999));
        kept("days(60)", y -> y.days(60));
        kept("lays(0)", y -> y.lays(0));
        kept("plain()", y -> y.plain());
    }

    @Says("(THE TAPE not)")
    static void p37_theTapeIsNotKept() {
        CrowLikeness x = new CrowLikeness();
        Check.feedText(x, "crows 9");
        x.image();
        x.wipe();
        x.undo();
        Edge.due("a wiped tape stays empty", x.count(1), 0);
        x.image();
        Check.feedText(x, "crows 8");
        x.undo();
        Edge.due("what was fed stays", x.count(1), 7);
        Edge.due("plain()", x.plain(), 1);
        Edge.due("now(1)", x.now(1), 8);
    }

    @Says("All that section 1 tells")
    static void p37_sheetsAreNotKept() {
        CrowLikeness x = new CrowLikeness();
        x.sheet(0, 8, 1);
        x.sheet(1, 8, 1);
        x.image();
        x.write(0, 0, 5);
        x.sheet(1, 0, 0);
        x.sheet(2, 64, 1);
        x.undo();
        Edge.due("what was written stays", x.write(0, 0, 0), 5);
        Edge.due("one that is missing stays so", x.write(1, 0, 0), Check.MISSING);
        Edge.due("a new one stays", x.write(2, 0, 0), 0);
    }

    @Says("is kept: 1.")
    static void p37_changesNothingThatIs() {
        CrowLikeness x = Edge.rich();
        x.image();
        x.image();
        Edge.holds("all is as it was", Check.stateOf(x).equals(Check.stateOf(Edge.rich())));
        Edge.due("count(1)", x.count(1), 7);
    }

    // ---- 38: undo

    @Says("NONE: nothing is kept.")
    static void p38_noneWhereNothingIsKept() {
        Edge.refuses(CrowLikeness::new, "undo()", y -> y.undo(), Check.NONE);
        Edge.refuses(ImagesEdges::torn, "undo() behind tear()", y -> y.undo(), Check.NONE);
    }

    private static CrowLikeness torn() {
        CrowLikeness x = Edge.rich();
        x.tear();
        return x;
    }

    @Says("It becomes what was kept latest (which stays): how many SITTERS.")
    static void p38_latestCounts() {
        CrowLikeness x = new CrowLikeness();
        x.crows(1);
        x.image();
        x.crows(2);
        x.sitter(0);
        x.image();
        x.crows(4);
        x.sitter(0);
        Edge.due("undo()", x.undo(), 1);
        Edge.due("now(1)", x.now(1), 2);
    }

    @Says("(which stays)")
    static void p38_itStays() {
        CrowLikeness x = Edge.plain("sitter; likeness 0 at 0");
        x.image();
        String was = Check.stateOf(x);
        for (int time = 0; time < 3; time++) {
            x.days(1);
            x.set(0, 1, time);
            x.place(0, 0, 9 + time);
            x.wheat(time, 50);
            Edge.due("undo()", x.undo(), 1);
            Edge.holds("it is as it was", was.equals(Check.stateOf(x)));
        }
    }

    @Says("how many SITTERS.")
    static void p38_noSittersAndSix() {
        CrowLikeness x = new CrowLikeness();
        x.image();
        Edge.due("undo() of none", x.undo(), 0);
        Check.plainOf(x, "dead;dead;dead;dead;dead;dead");
        x.image();
        Edge.due("undo() of six", x.undo(), 6);
        Edge.due("status(-1)", x.status(-1), 0);
    }

    @Says("It becomes what was kept latest")
    static void p38_roomIsAsItWas() {
        CrowLikeness x = Edge.plain("dead;dead;dead;dead;dead");
        for (int l = 0; l < 7; l++) {
            x.likeness(0, l);
        }
        x.image();
        for (int time = 0; time < 2; time++) {
            Edge.due("the 6th", x.sitter(0), 5);
            Edge.due("the 7th", x.sitter(0), Check.FULL);
            Edge.due("the 8th likeness", x.likeness(5, 47), 7);
            Edge.due("the 9th", x.likeness(5, 47), Check.FULL);
            x.undo();
        }
        Edge.due("who came later is gone", x.of(5, 0), Check.BEYOND);
        Edge.due("and so is its likeness", x.told(7, 0), Check.BEYOND);
    }

    @Says("It becomes what was kept latest")
    static void p38_backFromTheLastDay() {
        CrowLikeness x = new CrowLikeness();
        x.image();
        for (int left = 9999; left > 0; left -= 60) {
            x.days(Math.min(60, left));
        }
        Edge.due("days(1)", x.days(1), Check.STATE);
        x.undo();
        Edge.due("now(0)", x.now(0), 0);
        Edge.due("now(2)", x.now(2), 480);
        Edge.due("days(60)", x.days(60), 360);
    }

    // ---- 39: tear

    @Says("Nothing is kept: 1 if something was, else 0.")
    static void p39_somethingAndNothing() {
        CrowLikeness x = new CrowLikeness();
        Edge.due("tear() of nothing", x.tear(), 0);
        x.image();
        x.image();
        Edge.due("tear() of two", x.tear(), 1);
        Edge.due("tear() again", x.tear(), 0);
        x.image();
        x.undo();
        Edge.due("tear() behind undo()", x.tear(), 1);
        Edge.due("status(-1)", x.status(-1), 0);
    }

    @Says("Nothing is kept:")
    static void p39_changesNothingThatIs() {
        CrowLikeness x = Edge.rich();
        x.tear();
        Edge.holds("all is as it was", Check.stateOf(x).equals(Check.stateOf(Edge.rich())));
    }

    @Says("Nothing is kept:")
    static void p39_aNewImageIsKeptAgain() {
        CrowLikeness x = Edge.plain("sitter");
        x.image();
        x.tear();
        x.sitter(1);
        x.image();
        x.sitter(2);
        Edge.due("undo()", x.undo(), 2);
    }

    // ---- 40: count

    @Says("0 SITTERS, 1 bytes of THE TAPE, 2 LIKENESSES, 3 TEMPERS of all together.")
    static void p40_noneAndTheMost() {
        CrowLikeness x = new CrowLikeness();
        for (int what = 0; what < 4; what++) {
            int w = what;
            Edge.asks(CrowLikeness::new, "count(" + what + ")", y -> y.count(w), 0);
        }
        Check.plainOf(x, "dead;dead;dead;dead;dead;dead");
        for (int s = 0; s < 6; s++) {
            x.set(s, 1, 30);
        }
        for (int l = 0; l < 8; l++) {
            x.likeness(0, 0);
        }
        for (int i = 0; i < 30; i++) {
            x.feed(0, 4);
        }
        int[] due = {6, 120, 8, 180};
        for (int what = 0; what < 4; what++) {
            Edge.due("count(" + what + ")", x.count(what), due[what]);
        }
    }

    @Says("3 TEMPERS of all together.")
    static void p40_tempersOfWhoHasNoLikenessToo() {
        CrowLikeness x = Edge.plain("dead temper 30; lady temper 1; sitter temper 0; likeness 0 at 0");
        Edge.due("count(3)", x.count(3), 31);
        x.image();
        x.sitter(0);
        Edge.due("count(3) of one more", x.count(3), 41);
        x.undo();
        Edge.due("count(3) without that one", x.count(3), 31);
    }

    @Says("BEYOND: another what.")
    static void p40_beyondOfWhat() {
        for (int what : Edge.outside(0, 3)) {
            Edge.refuses("count(" + what + ")", y -> y.count(what), Check.BEYOND);
        }
    }

    // ---- 41: status

    /** One more finding of each kind than of the one ahead: 1 BEYOND to 7 SIZE. */
    private static CrowLikeness withFindings() {
        CrowLikeness x = Edge.atDay(9999);
        Check.plainOf(x, "dead;dead;dead;dead;dead;dead");
        x.crows(21);
        for (int i = 0; i < 7; i++) {
            if (i < 2) {
                x.sitter(0);
            }
            if (i < 3) {
                x.as(0, 1);
            }
            if (i < 4) {
                x.undo();
            }
            if (i < 5) {
                x.days(1);
            }
            if (i < 6) {
                x.lays(0);
            }
            x.sheet(0, 8, -1);
        }
        return x;
    }

    @Says({"How many acts answered a finding ever", "which -1: all, 0 to 6: BEYOND to SIZE.",
        "-1000000001 BEYOND, -1000000002 FULL, -1000000003 KIND, -1000000004 NONE, -1000000005 STATE, "
            + "-1000000006 MISSING, -1000000007 SIZE"})
    static void p41_eachFindingUnderItsNumber() {
        CrowLikeness x = withFindings();
        Edge.due("status(-1)", x.status(-1), 28);
        for (int which = 0; which < 7; which++) {
            Edge.due("status(" + which + ")", x.status(which), which + 1);
        }
        Edge.due("asking counts nothing", x.status(-1), 28);
        Edge.due("FULL", x.sitter(0), -1000000002);
        Edge.due("KIND", x.as(0, 1), -1000000003);
        Edge.due("NONE", x.undo(), -1000000004);
        Edge.due("STATE", x.days(1), -1000000005);
        Edge.due("MISSING", x.lays(0), -1000000006);
        Edge.due("SIZE", x.sheet(0, 8, -1), -1000000007);
        Edge.due("BEYOND", x.crows(-1), -1000000001);
        Edge.due("status(-1)", x.status(-1), 35);
    }

    @Says("How many acts answered a finding ever")
    static void p41_noneAtFirst() {
        for (int which = -1; which < 7; which++) {
            int w = which;
            Edge.asks(CrowLikeness::new, "status(" + which + ")", y -> y.status(w), 0);
        }
    }

    @Says("(undo() takes none back):")
    static void p41_undoTakesNoneBack() {
        CrowLikeness x = Edge.plain("sitter");
        x.crows(21);
        x.image();
        x.crows(21);
        x.as(0, 1);
        x.undo();
        Edge.due("status(-1)", x.status(-1), 3);
        Edge.due("status(0)", x.status(0), 2);
        Edge.due("status(2)", x.status(2), 1);
        x.tear();
        Edge.due("status(-1) behind tear()", x.status(-1), 3);
    }

    @Says("BEYOND (counted from then on): another one.")
    static void p41_beyondIsCountedFromThenOn() {
        for (int which : Edge.outside(-1, 6)) {
            Edge.refuses("status(" + which + ")", y -> y.status(which), Check.BEYOND);
        }
        CrowLikeness x = new CrowLikeness();
        Edge.due("status(7)", x.status(7), Check.BEYOND);
        Edge.due("status(0)", x.status(0), 1);
        Edge.due("status(-2)", x.status(-2), Check.BEYOND);
        Edge.due("status(0)", x.status(0), 2);
        Edge.due("status(-1)", x.status(-1), 2);
    }

    @Says("one that answers a finding changes nothing but status().")
    static void p41_whatIsNoFindingIsNotCounted() {
        CrowLikeness x = new CrowLikeness();
        x.plain();
        Check.plainOf(x, "crows 21");
        x.wipe();
        x.tear();
        Edge.due("status(-1)", x.status(-1), 0);
    }

    @Says("How many acts answered a finding ever")
    static void p41_findingsOfWriteAreCounted() {
        CrowLikeness x = new CrowLikeness();
        x.write(4, 0, 0);
        x.write(0, 0, 0);
        Edge.due("status(0)", x.status(0), 1);
        Edge.due("status(5)", x.status(5), 1);
        Edge.due("status(-1)", x.status(-1), 2);
    }
}
