/** Boundary cases of promises 10 to 13: likeness, told, place, scares. */
final class LikenessesEdges {
    private LikenessesEdges() {
    }

    private static CrowLikeness eight() {
        CrowLikeness x = Edge.plain("sitter;bailiff;laughed;dead;lady;stranger");
        for (int l = 0; l < 8; l++) {
            x.likeness(Math.min(l, 5), 5 * l);
        }
        return x;
    }

    /** One likeness of one sitter. */
    private static CrowLikeness one(int kind, int temper) {
        CrowLikeness x = new CrowLikeness();
        x.sitter(kind);
        x.set(0, 1, temper);
        x.likeness(0, 20);
        return x;
    }

    private static void counts(int kind, int temper, int age, int due) {
        CrowLikeness x = one(kind, temper);
        x.place(0, 2, age);
        Edge.due("kind " + kind + " of temper " + temper + " at age " + age, x.told(0, 3), 1000 + due);
    }

    private static void scare(int kind, int temper, int distance, int due) {
        CrowLikeness x = one(kind, temper);
        Edge.due("kind " + kind + " of temper " + temper + " at " + distance, x.scares(0, distance), 1000 + due);
        if (distance == 0) {
            Edge.due("kind " + kind + " of temper " + temper + " at its cell", x.told(0, 4), 1000 + due);
        }
    }

    // ---- 10: likeness

    @Says("A new LIKENESS OF a SITTER AT a CELL: its number.")
    static void p10_firstAndLastCell() {
        CrowLikeness x = Edge.plain("sitter;sitter;sitter;sitter;sitter;sitter");
        Edge.due("likeness(0, 0)", x.likeness(0, 0), 0);
        Edge.due("likeness(5, 47)", x.likeness(5, 47), 1);
        Edge.due("told(0, 0)", x.told(0, 0), 0);
        Edge.due("told(0, 1)", x.told(0, 1), 0);
        Edge.due("told(1, 0)", x.told(1, 0), 47);
        Edge.due("told(1, 1)", x.told(1, 1), 5);
    }

    @Says("LIKENESSES 0, 1, .. (at most 8): each AT a CELL, OF a SITTER,")
    static void p10_eighthComes() {
        CrowLikeness x = Edge.plain("sitter");
        for (int l = 0; l < 7; l++) {
            x.likeness(0, l);
        }
        Edge.due("the 8th", x.likeness(0, 47), 7);
        Edge.due("count(2)", x.count(2), 8);
        Edge.due("told(7, 0)", x.told(7, 0), 47);
    }

    @Says("FULL.")
    static void p10_ninthIsFull() {
        Edge.refuses(LikenessesEdges::eight, "a 9th, likeness(0, 0)", y -> y.likeness(0, 0), Check.FULL);
        Edge.refuses(LikenessesEdges::eight, "a 9th, likeness(5, 47)", y -> y.likeness(5, 47), Check.FULL);
    }

    @Says("BEYOND: sitter, cell.")
    static void p10_beyondOfSitter() {
        Edge.refuses(CrowLikeness::new, "likeness(0, 0) where no one is", y -> y.likeness(0, 0), Check.BEYOND);
        Edge.refuses("likeness(3, 0) where three are", y -> y.likeness(3, 0), Check.BEYOND);
        for (int s : Edge.outside(0, 5)) {
            Edge.refuses("likeness(" + s + ", 0)", y -> y.likeness(s, 0), Check.BEYOND);
        }
    }

    @Says("BEYOND: sitter, cell.")
    static void p10_beyondOfCell() {
        for (int cell : Edge.outside(0, 47)) {
            Edge.refuses("likeness(0, " + cell + ")", y -> y.likeness(0, cell), Check.BEYOND);
        }
    }

    @Says("BEYOND: sitter, cell. FULL.")
    static void p10_beyondIsAskedBeforeFull() {
        Edge.refuses(LikenessesEdges::eight, "a 9th, likeness(6, 0)", y -> y.likeness(6, 0), Check.BEYOND);
        Edge.refuses(LikenessesEdges::eight, "a 9th, likeness(-1, 0)", y -> y.likeness(-1, 0), Check.BEYOND);
        Edge.refuses(LikenessesEdges::eight, "a 9th, likeness(0, 48)", y -> y.likeness(0, 48), Check.BEYOND);
        Edge.refuses(LikenessesEdges::eight, "a 9th, likeness(0, -1)", y -> y.likeness(0, -1), Check.BEYOND);
    }

    @Says("AGE (DAYS; 0 at first,")
    static void p10_ageIs0AtFirst() {
        CrowLikeness x = Edge.atDay(60);
        x.sitter(0);
        x.likeness(0, 0);
        Edge.due("told(0, 2)", x.told(0, 2), 0);
    }

    @Says("0 at first,")
    static void p10_comesAnewWhereAnotherWas() {
        CrowLikeness x = Edge.plain("sitter");
        x.image();
        x.likeness(0, 30);
        x.place(0, 2, 9999);
        x.undo();
        Edge.due("likeness(0, 3)", x.likeness(0, 3), 0);
        Edge.due("told(0, 0)", x.told(0, 0), 3);
        Edge.due("told(0, 2)", x.told(0, 2), 0);
    }

    // ---- 11: told

    @Says("Of a LIKENESS: what 0 AT, 1 OF whom, 2 AGE, 3 1000 and what it counts for now, "
        + "4 1000 and what it SCARES AT its CELL.")
    static void p11_leastAndGreatestOfEach() {
        CrowLikeness x = Edge.plain("lady temper 30; stranger;stranger;stranger;stranger;stranger temper 30");
        Check.plainOf(x, "likeness 0 at 0; likeness 5 at 47; likeness 5 at 47");
        x.place(2, 2, 9999);
        int[] least = {0, 0, 0, 985, 985};
        int[] most = {47, 5, 0, 1030, 1060};
        int[] oldest = {47, 5, 9999, 1000, 1000};
        for (int what = 0; what < 5; what++) {
            Edge.due("told(0, " + what + ")", x.told(0, what), least[what]);
            Edge.due("told(1, " + what + ")", x.told(1, what), most[what]);
            Edge.due("told(2, " + what + ")", x.told(2, what), oldest[what]);
        }
    }

    @Says("3 1000 and what it counts for now,")
    static void p11_askingChangesNothing() {
        int[] due = {30, 1, 2, 1000 - 8, 1000 - 8};
        for (int what = 0; what < 5; what++) {
            int w = what;
            Edge.asks("told(1, " + what + ")", y -> y.told(1, w), due[what]);
        }
    }

    @Says({"FADES (what TEMPER counts for after a days that a LIKENESS is old): "
        + "SITTER: TEMPER less a quarter of a (0 at least).", "Quotients are cut."})
    static void p11_sitterFades() {
        counts(0, 30, 0, 30);
        counts(0, 30, 3, 30);
        counts(0, 30, 4, 29);
        counts(0, 30, 7, 29);
        counts(0, 30, 8, 28);
        counts(0, 30, 116, 1);
        counts(0, 30, 119, 1);
        counts(0, 30, 120, 0);
        counts(0, 30, 124, 0);
        counts(0, 30, 9999, 0);
        counts(0, 0, 0, 0);
        counts(0, 0, 4, 0);
    }

    @Says("BAILIFF: as SITTER, and 5.")
    static void p11_bailiffFades() {
        counts(1, 30, 0, 35);
        counts(1, 30, 4, 34);
        counts(1, 30, 119, 6);
        counts(1, 30, 120, 5);
        counts(1, 30, 9999, 5);
        counts(1, 0, 0, 5);
        counts(1, 0, 4, 5);
    }

    @Says({"LAUGHED: half of as SITTER.", "Quotients are cut."})
    static void p11_laughedFades() {
        counts(2, 30, 0, 15);
        counts(2, 29, 0, 14);
        counts(2, 30, 4, 14);
        counts(2, 30, 8, 14);
        counts(2, 2, 0, 1);
        counts(2, 1, 0, 0);
        counts(2, 0, 0, 0);
        counts(2, 30, 112, 1);
        counts(2, 30, 116, 0);
        counts(2, 30, 9999, 0);
    }

    @Says("DEAD: TEMPER, if a is below 365, else 0.")
    static void p11_deadKeepForAYear() {
        counts(3, 30, 0, 30);
        counts(3, 30, 363, 30);
        counts(3, 30, 364, 30);
        counts(3, 30, 365, 0);
        counts(3, 30, 366, 0);
        counts(3, 30, 9999, 0);
        counts(3, 0, 0, 0);
    }

    @Says({"LADY: 0 less as LAUGHED.", "Quotients are cut."})
    static void p11_ladyFades() {
        counts(4, 30, 0, -15);
        counts(4, 29, 0, -14);
        counts(4, 30, 4, -14);
        counts(4, 1, 0, 0);
        counts(4, 0, 0, 0);
        counts(4, 30, 112, -1);
        counts(4, 30, 116, 0);
        counts(4, 30, 9999, 0);
    }

    @Says("STRANGER: as DEAD, if a is below 7, else 0.")
    static void p11_strangerDoesForAWeek() {
        counts(5, 30, 0, 30);
        counts(5, 30, 5, 30);
        counts(5, 30, 6, 30);
        counts(5, 30, 7, 0);
        counts(5, 30, 8, 0);
        counts(5, 30, 364, 0);
        counts(5, 30, 9999, 0);
        counts(5, 0, 0, 0);
    }

    @Says("BEYOND.")
    static void p11_beyondOfLikeness() {
        Edge.refuses(CrowLikeness::new, "told(0, 0) where none is", y -> y.told(0, 0), Check.BEYOND);
        Edge.refuses("told(4, 0) where four are", y -> y.told(4, 0), Check.BEYOND);
        for (int l : Edge.outside(0, 7)) {
            Edge.refuses(LikenessesEdges::eight, "told(" + l + ", 3)", y -> y.told(l, 3), Check.BEYOND);
        }
        Edge.asks(LikenessesEdges::eight, "told(7, 0)", y -> y.told(7, 0), 35);
    }

    @Says("BEYOND.")
    static void p11_beyondOfWhat() {
        for (int what : Edge.outside(0, 4)) {
            Edge.refuses("told(0, " + what + ")", y -> y.told(0, what), Check.BEYOND);
        }
        Edge.refuses("told(-1, -1)", y -> y.told(-1, -1), Check.BEYOND);
    }

    // ---- 12: place

    @Says("AT (what 0),")
    static void p12_firstAndLastCell() {
        CrowLikeness x = eight();
        Edge.due("place(7, 0, 47)", x.place(7, 0, 47), 35);
        Edge.due("place(7, 0, 0)", x.place(7, 0, 0), 47);
        Edge.due("place(7, 0, 0) as it is", x.place(7, 0, 0), 0);
        Edge.due("told(7, 0)", x.told(7, 0), 0);
        Edge.due("whose it is stays", x.told(7, 1), 5);
        Edge.due("the one beside it stays", x.told(6, 0), 30);
    }

    @Says("OF whom (1),")
    static void p12_firstAndLastSitter() {
        CrowLikeness x = eight();
        Edge.due("place(3, 1, 5)", x.place(3, 1, 5), 3);
        Edge.due("place(3, 1, 0)", x.place(3, 1, 0), 5);
        Edge.due("told(3, 1)", x.told(3, 1), 0);
        Edge.due("where it is stays", x.told(3, 0), 15);
    }

    @Says("AGE (2; 0 to 9999) of a LIKENESS becomes v: what it was.")
    static void p12_ageFrom0To9999() {
        CrowLikeness x = eight();
        Edge.due("place(0, 2, 9999)", x.place(0, 2, 9999), 0);
        Edge.due("told(0, 2)", x.told(0, 2), 9999);
        Edge.due("place(0, 2, 0)", x.place(0, 2, 0), 9999);
        Edge.due("told(0, 2)", x.told(0, 2), 0);
        Edge.due("another's stays", x.told(1, 2), 0);
    }

    @Says("BEYOND.")
    static void p12_beyondOfCell() {
        for (int cell : Edge.outside(0, 47)) {
            Edge.refuses("place(0, 0, " + cell + ")", y -> y.place(0, 0, cell), Check.BEYOND);
        }
    }

    @Says("BEYOND.")
    static void p12_beyondOfSitter() {
        Edge.refuses("place(0, 1, 3) where three are", y -> y.place(0, 1, 3), Check.BEYOND);
        for (int s : Edge.outside(0, 5)) {
            Edge.refuses(LikenessesEdges::eight, "place(0, 1, " + s + ")", y -> y.place(0, 1, s), Check.BEYOND);
        }
    }

    @Says("BEYOND.")
    static void p12_beyondOfAge() {
        for (int age : Edge.outside(0, 9999)) {
            Edge.refuses("place(0, 2, " + age + ")", y -> y.place(0, 2, age), Check.BEYOND);
        }
    }

    @Says("BEYOND.")
    static void p12_beyondOfWhat() {
        for (int what : Edge.outside(0, 2)) {
            Edge.refuses("place(0, " + what + ", 0)", y -> y.place(0, what, 0), Check.BEYOND);
        }
    }

    @Says("BEYOND.")
    static void p12_beyondOfLikeness() {
        Edge.refuses(CrowLikeness::new, "place(0, 0, 0) where none is", y -> y.place(0, 0, 0), Check.BEYOND);
        Edge.refuses("place(4, 0, 0) where four are", y -> y.place(4, 0, 0), Check.BEYOND);
        for (int l : Edge.outside(0, 7)) {
            for (int what = 0; what < 3; what++) {
                int w = what;
                Edge.refuses(LikenessesEdges::eight, "place(" + l + ", " + what + ", 0)", y -> y.place(l, w, 0),
                    Check.BEYOND);
            }
        }
    }

    // ---- 13: scares

    @Says("1000 and what a LIKENESS SCARES at a distance (0 to 12).")
    static void p13_leastAndGreatestDistance() {
        Edge.asks(LikenessesEdges::eight, "scares(1, 0)", y -> y.scares(1, 0), 1015);
        Edge.asks(LikenessesEdges::eight, "scares(1, 12)", y -> y.scares(1, 12), 1003);
    }

    @Says("SCARES (at a distance d, by what it counts for, f): SITTER: f less 3 times d (0 at least).")
    static void p13_sitterScares() {
        scare(0, 30, 0, 30);
        scare(0, 30, 1, 27);
        scare(0, 30, 9, 3);
        scare(0, 30, 10, 0);
        scare(0, 30, 11, 0);
        scare(0, 30, 12, 0);
        scare(0, 1, 0, 1);
        scare(0, 1, 1, 0);
        scare(0, 0, 0, 0);
    }

    @Says("BAILIFF: f less d (0 at least).")
    static void p13_bailiffScares() {
        scare(1, 30, 0, 35);
        scare(1, 30, 12, 23);
        scare(1, 0, 0, 5);
        scare(1, 0, 4, 1);
        scare(1, 0, 5, 0);
        scare(1, 0, 6, 0);
        scare(1, 0, 12, 0);
    }

    @Says("LAUGHED: as SITTER, less 1 (0 at least).")
    static void p13_laughedScares() {
        scare(2, 30, 0, 14);
        scare(2, 30, 4, 2);
        scare(2, 30, 5, 0);
        scare(2, 30, 12, 0);
        scare(2, 8, 1, 0);
        scare(2, 10, 1, 1);
        scare(2, 2, 0, 0);
        scare(2, 4, 0, 1);
        scare(2, 0, 0, 0);
    }

    @Says("DEAD: as SITTER.")
    static void p13_deadScares() {
        scare(3, 30, 0, 30);
        scare(3, 30, 9, 3);
        scare(3, 30, 10, 0);
        scare(3, 30, 12, 0);
        scare(3, 0, 0, 0);
    }

    @Says("LADY: f and 2 times d, if that is below 0; else 0 (it draws).")
    static void p13_ladyDraws() {
        scare(4, 30, 0, -15);
        scare(4, 30, 7, -1);
        scare(4, 30, 8, 0);
        scare(4, 30, 12, 0);
        scare(4, 28, 6, -2);
        scare(4, 28, 7, 0);
        scare(4, 2, 0, -1);
        scare(4, 1, 0, 0);
        scare(4, 0, 0, 0);
    }

    @Says("STRANGER: as DEAD, twice, if d is 1 or less. (Others as the KIND above.)")
    static void p13_strangerScares() {
        scare(5, 30, 0, 60);
        scare(5, 30, 1, 54);
        scare(5, 30, 2, 24);
        scare(5, 30, 9, 3);
        scare(5, 30, 10, 0);
        scare(5, 3, 1, 0);
        scare(5, 2, 1, 0);
        scare(5, 4, 1, 2);
        scare(5, 0, 0, 0);
    }

    @Says("BEYOND.")
    static void p13_beyondOfDistance() {
        for (int d : Edge.outside(0, 12)) {
            Edge.refuses("scares(0, " + d + ")", y -> y.scares(0, d), Check.BEYOND);
        }
    }

    @Says("BEYOND.")
    static void p13_beyondOfLikeness() {
        Edge.refuses(CrowLikeness::new, "scares(0, 0) where none is", y -> y.scares(0, 0), Check.BEYOND);
        Edge.refuses("scares(4, 0) where four are", y -> y.scares(4, 0), Check.BEYOND);
        for (int l : Edge.outside(0, 7)) {
            Edge.refuses(LikenessesEdges::eight, "scares(" + l + ", 0)", y -> y.scares(l, 0), Check.BEYOND);
        }
    }
}
