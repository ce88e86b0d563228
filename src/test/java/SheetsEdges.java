import java.util.function.Supplier;

/** Boundary cases of promises 31 to 36: sheet, write, copy, lays, book, read. */
final class SheetsEdges {
    private static final int[] WIDTHS = {8, 16, 64};

    private SheetsEdges() {
    }

    /** A sheet of some numbers on a new plain. */
    private static CrowLikeness sheetOf(int bits, long... numbers) {
        CrowLikeness x = new CrowLikeness();
        fill(x, 0, bits, numbers);
        return x;
    }

    private static void fill(CrowLikeness x, int s, int bits, long... numbers) {
        Edge.due("sheet(" + s + ", " + bits + ", " + numbers.length + ")", x.sheet(s, bits, numbers.length),
            numbers.length);
        for (int i = 0; i < numbers.length; i++) {
            x.write(s, i, numbers[i]);
        }
    }

    private static void holds(CrowLikeness x, int s, long... due) {
        for (int i = 0; i < due.length; i++) {
            long was = x.write(s, i, 0);
            Edge.due("number " + i + " of sheet " + s, was, due[i]);
            x.write(s, i, was);
        }
        Edge.due("sheet " + s + " has no more", x.write(s, due.length, 0), Check.BEYOND);
    }

    // ---- 31: sheet

    @Says({"A sheet has n numbers, all 0, of 8, 16 or 64 bits;",
        "SHEETS 0 to 3 are rows of at most 40 numbers of 8, 16 or 64 bits,"})
    static void p31_firstAndLastSheetOfEachWidth() {
        for (int bits : WIDTHS) {
            for (int s : new int[] {0, 3}) {
                CrowLikeness x = new CrowLikeness();
                Edge.due("sheet(" + s + ", " + bits + ", 2)", x.sheet(s, bits, 2), 2);
                holds(x, s, 0, 0);
                Edge.due("the next one is missing still", x.write(s == 0 ? 1 : 2, 0, 0), Check.MISSING);
            }
        }
    }

    @Says("rows of at most 40 numbers")
    static void p31_noNumbersAnd40() {
        for (int bits : WIDTHS) {
            CrowLikeness x = new CrowLikeness();
            Edge.due("sheet(1, " + bits + ", 0)", x.sheet(1, bits, 0), 0);
            Edge.due("it is there, without a number", x.write(1, 0, 0), Check.BEYOND);
            Edge.due("sheet(1, " + bits + ", 40)", x.sheet(1, bits, 40), 40);
            holds(x, 1, new long[40]);
        }
    }

    @Says("all 0,")
    static void p31_all0ThoughItHadNumbers() {
        CrowLikeness x = sheetOf(64, -1, Long.MIN_VALUE, Long.MAX_VALUE);
        x.sheet(0, 64, 3);
        holds(x, 0, 0, 0, 0);
        x.write(0, 2, 7);
        x.sheet(0, 64, 1);
        x.sheet(0, 64, 3);
        holds(x, 0, 0, 0, 0);
        x.write(0, 2, 7);
        x.sheet(0, 0, 0);
        x.sheet(0, 8, 3);
        holds(x, 0, 0, 0, 0);
    }

    @Says("bits 0: it is MISSING: n (0 if it is MISSING).")
    static void p31_bits0IsMissing() {
        for (int n : new int[] {0, 1, 40}) {
            CrowLikeness x = sheetOf(16, 5);
            Edge.due("sheet(0, 0, " + n + ")", x.sheet(0, 0, n), 0);
            Edge.due("write(0, 0, 0)", x.write(0, 0, 0), Check.MISSING);
            Edge.due("sheet(3, 0, " + n + ") of a missing one", x.sheet(3, 0, n), 0);
        }
    }

    @Says("BEYOND: no such sheet, other bits.")
    static void p31_beyondOfSheet() {
        for (int s : Edge.outside(0, 3)) {
            for (int bits : new int[] {0, 8, 16, 64}) {
                Edge.refuses("sheet(" + s + ", " + bits + ", 1)", y -> y.sheet(s, bits, 1), Check.BEYOND);
            }
        }
    }

    @Says("BEYOND: no such sheet, other bits.")
    static void p31_beyondOfBits() {
        for (int bits : new int[] {-1, 1, 2, 4, 7, 9, 15, 17, 24, 32, 63, 65, 128, -8, -64, 65536, Integer.MIN_VALUE,
            Integer.MAX_VALUE}) {
            Edge.refuses("sheet(0, " + bits + ", 1)", y -> y.sheet(0, bits, 1), Check.BEYOND);
        }
    }

    @Says("SIZE: n is below 0 (also with bits 0).")
    static void p31_sizeBelow0() {
        for (int bits : new int[] {0, 8, 16, 64}) {
            for (int n : new int[] {-1, -2, -65536, Integer.MIN_VALUE}) {
                Edge.refuses("sheet(0, " + bits + ", " + n + ")", y -> y.sheet(0, bits, n), Check.SIZE);
            }
        }
    }

    @Says("BEYOND: n is above 40 (also with bits 0).")
    static void p31_beyond40() {
        for (int bits : new int[] {0, 8, 16, 64}) {
            for (int n : new int[] {41, 42, 65536, Integer.MAX_VALUE}) {
                Edge.refuses("sheet(0, " + bits + ", " + n + ")", y -> y.sheet(0, bits, n), Check.BEYOND);
            }
        }
    }

    @Says("BEYOND: no such sheet, other bits. SIZE: n is below 0")
    static void p31_beyondIsAskedBeforeSize() {
        Edge.refuses("sheet(4, 8, -1)", y -> y.sheet(4, 8, -1), Check.BEYOND);
        Edge.refuses("sheet(-1, 0, -1)", y -> y.sheet(-1, 0, -1), Check.BEYOND);
        Edge.refuses("sheet(0, 32, -1)", y -> y.sheet(0, 32, -1), Check.BEYOND);
        Edge.refuses("sheet(0, 32, MIN)", y -> y.sheet(0, 32, Integer.MIN_VALUE), Check.BEYOND);
    }

    // ---- 32: write

    @Says("Number i of a sheet becomes v (its lowest bits): what it was.")
    static void p32_8BitsAtTheirEnds() {
        long[][] ends = {{0, 0}, {127, 127}, {128, -128}, {129, -127}, {255, -1}, {256, 0}, {-1, -1}, {-128, -128},
            {-129, 127}, {-256, 0}, {1L << 32, 0}, {Long.MAX_VALUE, -1}, {Long.MIN_VALUE, 0}};
        ends(8, ends);
    }

    @Says("Number i of a sheet becomes v (its lowest bits): what it was.")
    static void p32_16BitsAtTheirEnds() {
        long[][] ends = {{0, 0}, {127, 127}, {128, 128}, {256, 256}, {32767, 32767}, {32768, -32768}, {65535, -1},
            {65536, 0}, {-1, -1}, {-32768, -32768}, {-32769, 32767}, {1L << 32, 0}, {Long.MAX_VALUE, -1},
            {Long.MIN_VALUE, 0}};
        ends(16, ends);
    }

    @Says("Number i of a sheet becomes v (its lowest bits): what it was.")
    static void p32_64BitsAtTheirEnds() {
        long[][] ends = {{0, 0}, {32768, 32768}, {1L << 31, 1L << 31}, {1L << 32, 1L << 32}, {-1, -1},
            {Long.MAX_VALUE, Long.MAX_VALUE}, {Long.MIN_VALUE, Long.MIN_VALUE}};
        ends(64, ends);
    }

    private static void ends(int bits, long[][] ends) {
        CrowLikeness x = sheetOf(bits, 0, 0, 0);
        for (long[] end : ends) {
            x.write(0, 1, end[0]);
            Edge.due(end[0] + " in " + bits + " bits", x.write(0, 1, 0), end[1]);
        }
        holds(x, 0, 0, 0, 0);
    }

    @Says("Number i of a sheet becomes v")
    static void p32_firstAndLastNumber() {
        for (int n : new int[] {1, 40}) {
            CrowLikeness x = sheetOf(16, new long[n]);
            Edge.due("write(0, 0, 5)", x.write(0, 0, 5), 0);
            Edge.due("write(0, " + (n - 1) + ", 6)", x.write(0, n - 1, 6), n == 1 ? 5 : 0);
            Edge.due("write(0, " + (n - 1) + ", 7)", x.write(0, n - 1, 7), 6);
        }
    }

    @Says("BEYOND: no such sheet.")
    static void p32_beyondOfSheet() {
        for (int s : Edge.outside(0, 3)) {
            Edge.refuses("write(" + s + ", 0, 1)", y -> y.write(s, 0, 1), Check.BEYOND);
        }
    }

    @Says("MISSING.")
    static void p32_missing() {
        Edge.refuses("write(3, 0, 1)", y -> y.write(3, 0, 1), Check.MISSING);
        Edge.refuses(CrowLikeness::new, "write(0, 0, MIN)", y -> y.write(0, 0, Long.MIN_VALUE), Check.MISSING);
    }

    @Says("BEYOND: no such number.")
    static void p32_beyondOfNumber() {
        for (int i : Edge.outside(0, 2)) {
            Edge.refuses("write(0, " + i + ", 1)", y -> y.write(0, i, 1), Check.BEYOND);
        }
        Edge.refuses("write(1, 2, 1)", y -> y.write(1, 2, 1), Check.BEYOND);
        Edge.refuses(() -> sheetOf(8), "write(0, 0, 1) without a number", y -> y.write(0, 0, 1), Check.BEYOND);
        Edge.refuses(() -> sheetOf(64, new long[40]), "write(0, 40, 1)", y -> y.write(0, 40, 1), Check.BEYOND);
    }

    @Says("BEYOND: no such sheet. MISSING. BEYOND: no such number.")
    static void p32_missingIsAskedBeforeTheNumber() {
        Edge.refuses("write(3, -1, 1)", y -> y.write(3, -1, 1), Check.MISSING);
        Edge.refuses("write(3, 40, 1)", y -> y.write(3, 40, 1), Check.MISSING);
        Edge.refuses("write(4, -1, 1)", y -> y.write(4, -1, 1), Check.BEYOND);
    }

    @Says("(in longs, too).")
    static void p32_findingsInLongs() {
        Edge.due("BEYOND", new CrowLikeness().write(4, 0, 0), -1000000001L);
        Edge.due("MISSING", new CrowLikeness().write(0, 0, 0), -1000000006L);
    }

    @Says("FINDINGS are answers below -1000000000:")
    static void p32_aNumberThatLooksLikeAFindingIsNone() {
        CrowLikeness x = sheetOf(64, -1000000001L);
        Edge.due("write(0, 0, 0)", x.write(0, 0, 0), -1000000001L);
        Edge.due("status(-1)", x.status(-1), 0);
        Edge.due("the number is another one", x.write(0, 0, 0), 0);
    }

    // ---- 33: copy

    private static CrowLikeness rows() {
        CrowLikeness x = sheetOf(64, 1, 2, 3, 4, 5, 6);
        fill(x, 1, 64, 11, 12, 13, 14);
        fill(x, 2, 16, 21, 22, 23, 24, 25, 26);
        return x;
    }

    @Says("n numbers of a sheet from one on come to another one from one on (as they all were): n.")
    static void p33_fromTheBeginningToTheEnd() {
        CrowLikeness x = rows();
        Edge.due("copy(0, 0, 1, 0, 4)", x.copy(0, 0, 1, 0, 4), 4);
        holds(x, 1, 1, 2, 3, 4);
        holds(x, 0, 1, 2, 3, 4, 5, 6);
        x = rows();
        Edge.due("copy(0, 2, 1, 0, 4)", x.copy(0, 2, 1, 0, 4), 4);
        holds(x, 1, 3, 4, 5, 6);
        x = rows();
        Edge.due("copy(1, 0, 0, 2, 4)", x.copy(1, 0, 0, 2, 4), 4);
        holds(x, 0, 1, 2, 11, 12, 13, 14);
        x = rows();
        Edge.due("copy(0, 5, 1, 3, 1)", x.copy(0, 5, 1, 3, 1), 1);
        holds(x, 1, 11, 12, 13, 6);
    }

    @Says("(as they all were)")
    static void p33_withinOneSheet() {
        CrowLikeness x = rows();
        Edge.due("on by one", x.copy(0, 0, 0, 1, 5), 5);
        holds(x, 0, 1, 1, 2, 3, 4, 5);
        x = rows();
        Edge.due("back by one", x.copy(0, 1, 0, 0, 5), 5);
        holds(x, 0, 2, 3, 4, 5, 6, 6);
        x = rows();
        Edge.due("to itself", x.copy(0, 0, 0, 0, 6), 6);
        holds(x, 0, 1, 2, 3, 4, 5, 6);
    }

    @Says("n numbers of a sheet")
    static void p33_noneAnd40() {
        CrowLikeness x = sheetOf(8, new long[40]);
        x.write(0, 0, -128);
        x.write(0, 39, 127);
        x.sheet(1, 8, 40);
        Edge.due("none", x.copy(0, 0, 1, 0, 0), 0);
        holds(x, 1, new long[40]);
        Edge.due("none, from the end to the end", x.copy(0, 40, 1, 40, 0), 0);
        Edge.due("all 40", x.copy(0, 0, 1, 0, 40), 40);
        Edge.due("the first", x.write(1, 0, 0), -128);
        Edge.due("the last", x.write(1, 39, 0), 127);
    }

    @Says("n numbers of a sheet")
    static void p33_noneBetweenSheetsWithoutNumbers() {
        CrowLikeness x = sheetOf(16);
        x.sheet(3, 16, 0);
        Edge.due("copy(0, 0, 3, 0, 0)", x.copy(0, 0, 3, 0, 0), 0);
        Edge.due("copy(0, 0, 3, 0, 1)", x.copy(0, 0, 3, 0, 1), Check.BEYOND);
    }

    @Says("n numbers of a sheet")
    static void p33_eachWidthKeepsItsEnds() {
        for (int bits : WIDTHS) {
            CrowLikeness x = sheetOf(bits, Long.MAX_VALUE, Long.MIN_VALUE, -1L << bits - 1);
            x.sheet(3, bits, 3);
            x.copy(0, 0, 3, 0, 3);
            for (int i = 0; i < 3; i++) {
                Edge.due("number " + i + " of " + bits + " bits", x.write(3, i, 0), x.write(0, i, 0));
            }
        }
    }

    @Says("BEYOND: no such sheet (either).")
    static void p33_beyondOfEitherSheet() {
        for (int s : Edge.outside(0, 3)) {
            Edge.refuses(SheetsEdges::rows, "copy(" + s + ", 0, 0, 0, 1)", y -> y.copy(s, 0, 0, 0, 1), Check.BEYOND);
            Edge.refuses(SheetsEdges::rows, "copy(0, 0, " + s + ", 0, 1)", y -> y.copy(0, 0, s, 0, 1), Check.BEYOND);
        }
    }

    @Says("MISSING: one is.")
    static void p33_missing() {
        Edge.refuses(SheetsEdges::rows, "from a missing one", y -> y.copy(3, 0, 0, 0, 1), Check.MISSING);
        Edge.refuses(SheetsEdges::rows, "to a missing one", y -> y.copy(0, 0, 3, 0, 1), Check.MISSING);
        Edge.refuses(SheetsEdges::rows, "from a missing one to itself", y -> y.copy(3, 0, 3, 0, 0), Check.MISSING);
    }

    @Says("KIND: they are not of as many bits.")
    static void p33_ofOtherBits() {
        Edge.refuses(SheetsEdges::rows, "64 to 16", y -> y.copy(0, 0, 2, 0, 1), Check.KIND);
        Edge.refuses(SheetsEdges::rows, "16 to 64", y -> y.copy(2, 0, 0, 0, 1), Check.KIND);
        Edge.refuses(SheetsEdges::rows, "none of them", y -> y.copy(2, 0, 0, 0, 0), Check.KIND);
        Edge.refuses("8 to 16", y -> y.copy(0, 0, 1, 0, 1), Check.KIND);
    }

    @Says("BEYOND: one has not so many,")
    static void p33_beyondOfWhatOneHas() {
        int[][] off = {{0, 0, 5}, {0, 1, 4}, {3, 0, 4}, {6, 0, 1}, {5, 0, 2}, {0, 4, 1}, {0, 3, 2}, {0, 0, 7},
            {7, 0, 0}, {0, 5, 0}, {0, 0, 41}};
        for (int[] o : off) {
            Edge.refuses(SheetsEdges::rows, "copy(0, " + o[0] + ", 1, " + o[1] + ", " + o[2] + ")",
                y -> y.copy(0, o[0], 1, o[1], o[2]), Check.BEYOND);
        }
        Edge.refuses(SheetsEdges::rows, "copy(1, 0, 0, 0, 5)", y -> y.copy(1, 0, 0, 0, 5), Check.BEYOND);
        Edge.refuses(SheetsEdges::rows, "copy(0, 0, 0, 1, 6)", y -> y.copy(0, 0, 0, 1, 6), Check.BEYOND);
    }

    @Says("or from, to or n is below 0.")
    static void p33_beyondBelow0() {
        int[][] off = {{-1, 0, 1}, {0, -1, 1}, {0, 0, -1}, {-1, -1, 1}, {1, 1, -1}, {-1, 0, 0}, {0, -1, 0},
            {-1, -1, -1}};
        for (int[] o : off) {
            Edge.refuses(SheetsEdges::rows, "copy(0, " + o[0] + ", 1, " + o[1] + ", " + o[2] + ")",
                y -> y.copy(0, o[0], 1, o[1], o[2]), Check.BEYOND);
        }
    }

    @Says("BEYOND: one has not so many, or from, to or n is below 0.")
    static void p33_numbersAtTheEndsOfInt() {
        int least = Integer.MIN_VALUE;
        int most = Integer.MAX_VALUE;
        int[][] off = {{most, 0, 1}, {0, most, 1}, {0, 0, most}, {most, 0, most}, {0, most, most}, {most, most, most},
            {1, 1, most}, {least, 0, 1}, {0, least, 1}, {0, 0, least}, {least, least, least}, {most, most, 2},
            {least, 0, least}, {1, 1, least}, {most, 0, 0}, {0, most, 0}};
        for (int[] o : off) {
            Edge.refuses(SheetsEdges::rows, "copy(0, " + o[0] + ", 1, " + o[1] + ", " + o[2] + ")",
                y -> y.copy(0, o[0], 1, o[1], o[2]), Check.BEYOND);
        }
    }

    @Says("BEYOND: no such sheet (either). MISSING: one is. KIND: they are not of as many bits. BEYOND:")
    static void p33_findingsInTheirOrder() {
        Edge.refuses(SheetsEdges::rows, "no such sheet, and a missing one", y -> y.copy(4, 0, 3, 0, 1), Check.BEYOND);
        Edge.refuses(SheetsEdges::rows, "a missing one, and no such sheet", y -> y.copy(3, 0, -1, 0, 1), Check.BEYOND);
        Edge.refuses(SheetsEdges::rows, "a missing one, and below 0", y -> y.copy(3, -1, 0, -1, -1), Check.MISSING);
        Edge.refuses(SheetsEdges::rows, "to a missing one, of too many", y -> y.copy(0, 0, 3, 0, 41), Check.MISSING);
        Edge.refuses(SheetsEdges::rows, "other bits, and below 0", y -> y.copy(0, -1, 2, -1, -1), Check.KIND);
        Edge.refuses(SheetsEdges::rows, "other bits, and too many", y -> y.copy(2, 0, 1, 0, 41), Check.KIND);
    }

    // ---- 34: lays

    @Says("(those that aren't 0 to 99 are left out): how many came.")
    static void p34_from0To99() {
        CrowLikeness x = sheetOf(16, 0, 99, -1, 100, 50);
        Edge.due("lays(0)", x.lays(0), 3);
        int[] due = {0, 99, 10, 10, 50, 10};
        for (int c = 0; c < due.length; c++) {
            Edge.due("cell(" + c + ", 0)", x.cell(c, 0), due[c]);
        }
        holds(x, 0, 0, 99, -1, 100, 50);
    }

    @Says("(those that aren't 0 to 99 are left out)")
    static void p34_numbersAtTheirEnds() {
        CrowLikeness x =
            sheetOf(64, Long.MIN_VALUE, Long.MAX_VALUE, (1L << 32) + 5, -(1L << 32) + 5, 256 + 5, 65536 + 5);
        Edge.due("64 bits", x.lays(0), 0);
        Edge.due("now(2)", x.now(2), 480);
        fill(x, 0, 8, -128, 127, 256 + 5);
        Edge.due("8 bits", x.lays(0), 1);
        Edge.due("cell(2, 0)", x.cell(2, 0), 5);
        fill(x, 0, 16, -32768, 32767, 65536 + 6);
        Edge.due("16 bits", x.lays(0), 1);
        Edge.due("cell(2, 0)", x.cell(2, 0), 6);
        Edge.due("now(2)", x.now(2), 476);
    }

    @Says("Numbers of a sheet become WHEAT of CELLS 0, 1, ..")
    static void p34_noNumbersAnd40() {
        CrowLikeness x = sheetOf(8);
        Edge.due("lays(0) of none", x.lays(0), 0);
        Edge.due("now(2)", x.now(2), 480);
        x.sheet(0, 8, 40);
        x.write(0, 39, 99);
        Edge.due("lays(0) of 40", x.lays(0), 40);
        Edge.due("cell(38, 0)", x.cell(38, 0), 0);
        Edge.due("cell(39, 0)", x.cell(39, 0), 99);
        Edge.due("cell(40, 0)", x.cell(40, 0), 10);
        Edge.due("now(2)", x.now(2), 179);
    }

    @Says("BEYOND: no such sheet.")
    static void p34_beyondOfSheet() {
        for (int s : Edge.outside(0, 3)) {
            Edge.refuses("lays(" + s + ")", y -> y.lays(s), Check.BEYOND);
        }
    }

    @Says("MISSING.")
    static void p34_missing() {
        Edge.refuses("lays(3)", y -> y.lays(3), Check.MISSING);
        CrowLikeness x = sheetOf(8, 5);
        x.sheet(0, 0, 1);
        Edge.due("one that was there", x.lays(0), Check.MISSING);
        Edge.due("cell(0, 0)", x.cell(0, 0), 10);
    }

    // ---- 35: book

    @Says("A book: WHEAT of all CELLS together ON 0, 1, 2, .. DAYS comes to a sheet, as many as it has numbers: "
        + "how many.")
    static void p35_noNumbersOneAnd40() {
        CrowLikeness x = sheetOf(16);
        Edge.due("book(0) of none", x.book(0), 0);
        x.sheet(0, 16, 1);
        Edge.due("book(0) of one", x.book(0), 1);
        holds(x, 0, 480);
        x.sheet(0, 16, 40);
        Edge.due("book(0) of 40", x.book(0), 40);
        long[] due = new long[40];
        for (int i = 0; i < 40; i++) {
            due[i] = 480 - 6 * i;
        }
        holds(x, 0, due);
        Edge.due("nothing is eaten by it", x.now(2), 480);
        Edge.due("and no day goes", x.now(0), 0);
    }

    @Says("comes to a sheet,")
    static void p35_in8BitsAtTheirEnds() {
        CrowLikeness x = Edge.bare("wheat 0 64 to 1; wheat 2 1; crows 1");
        x.sheet(0, 8, 3);
        x.book(0);
        holds(x, 0, -127, 127, 125);
        x = Edge.bare("wheat 0 64 to 3; wheat 4 2; crows 1");
        x.sheet(0, 8, 3);
        x.book(0);
        holds(x, 0, 2, 0, -2);
    }

    @Says("WHEAT of all CELLS together ON 0, 1, 2, .. DAYS")
    static void p35_noWheatAndTheMost() {
        CrowLikeness x = Edge.bare();
        x.sheet(3, 64, 2);
        Edge.due("book(3) of no wheat", x.book(3), 2);
        holds(x, 3, 0, 0);
        x = Edge.plain("wheat 0 99 to 47; crows 20");
        x.sheet(3, 64, 3);
        x.sheet(2, 16, 3);
        x.sheet(1, 8, 3);
        for (int s = 1; s < 4; s++) {
            Edge.due("book(" + s + ") of the most", x.book(s), 3);
        }
        holds(x, 3, 4752, 4712, 4672);
        holds(x, 2, 4752, 4712, 4672);
        holds(x, 1, (byte) 4752, (byte) 4712, (byte) 4672);
    }

    @Says("ON: n DAYS go on with all as it is;")
    static void p35_asItIsAndNotAsItWas() {
        CrowLikeness x = Edge.bare("wheat 20 9; dead temper 20; likeness 0 at 20");
        x.sheet(0, 8, 3);
        x.book(0);
        holds(x, 0, 9, 9, 9);
        x.place(0, 0, 47);
        x.book(0);
        holds(x, 0, 9, 3, 0);
        x.place(0, 0, 20);
        x.likeness(0, 23);
        x.book(0);
        holds(x, 0, 9, 9, 3);
    }

    @Says("ON 0, 1, 2, .. DAYS")
    static void p35_behindTheLastDay() {
        CrowLikeness x = Edge.atDay(9999);
        x.sheet(0, 64, 3);
        Edge.due("book(0)", x.book(0), 3);
        holds(x, 0, 480, 474, 468);
        Edge.due("now(0)", x.now(0), 9999);
    }

    @Says("as many as it has numbers:")
    static void p35_changesNothingButTheSheet() {
        Supplier<CrowLikeness> booked = () -> {
            CrowLikeness x = Edge.rich();
            x.book(2);
            return x;
        };
        Edge.asks(booked, "book(2) again", y -> y.book(2), 3);
        CrowLikeness x = Edge.rich();
        CrowLikeness twin = Edge.rich();
        x.book(0);
        x.sheet(0, 8, 3);
        x.write(0, 1, 77);
        Edge.holds("all is as it was, once the sheet is", Edge.observe(x).equals(Edge.observe(twin)));
    }

    @Says("BEYOND: no such sheet.")
    static void p35_beyondOfSheet() {
        for (int s : Edge.outside(0, 3)) {
            Edge.refuses("book(" + s + ")", y -> y.book(s), Check.BEYOND);
        }
    }

    @Says("MISSING.")
    static void p35_missing() {
        Edge.refuses("book(3)", y -> y.book(3), Check.MISSING);
        Edge.refuses(CrowLikeness::new, "book(0)", y -> y.book(0), Check.MISSING);
    }

    // ---- 36: read

    /** One grain at 47, of whom who is dead keeps it only with a likeness just there. */
    private static CrowLikeness grain(int bits, long... numbers) {
        CrowLikeness x = Edge.bare("wheat 47 1; dead temper 20; dead temper 0; likeness 1 at 3");
        fill(x, 0, bits, numbers);
        return x;
    }

    @Says("how many pairs of a SITTER and a CELL make it just so, were a LIKENESS OF that SITTER AT that CELL")
    static void p36_noneOneAndAllPairs() {
        for (int bits : WIDTHS) {
            Edge.asks(() -> grain(bits, 1, 1), "one pair", y -> y.read(0, 0), 1);
            Edge.asks(() -> grain(bits, 1, 0), "all pairs but one", y -> y.read(0, 0), 95);
            Edge.asks(() -> grain(bits, 1), "all pairs", y -> y.read(0, 0), 96);
            Edge.asks(() -> grain(bits, 0), "none", y -> y.read(0, 0), 0);
            Edge.asks(() -> grain(bits, 1, 1, 0), "none, for the last number", y -> y.read(0, 0), 0);
        }
    }

    @Says("numbers of a sheet are WHEAT of all CELLS together ON 0, 1, 2, .. DAYS:")
    static void p36_noNumbersAreAlwaysSo() {
        Edge.asks(() -> grain(8), "96 pairs", y -> y.read(0, 0), 96);
        CrowLikeness x = Edge.plain("sitter;sitter;sitter;sitter;sitter;sitter; likeness 5 at 47");
        x.sheet(3, 64, 0);
        Edge.due("288 pairs", x.read(3, 0), 288);
        x = new CrowLikeness();
        x.sitter(0);
        x.likeness(0, 47);
        x.sheet(3, 64, 0);
        Edge.due("48 pairs", x.read(3, 0), 48);
    }

    @Says("ON 0, 1, 2, .. DAYS:")
    static void p36_40Numbers() {
        long[] all = new long[40];
        java.util.Arrays.fill(all, 1);
        Edge.asks(() -> grain(16, all), "one pair", y -> y.read(0, 0), 1);
        long[] last = all.clone();
        last[39] = 0;
        Edge.asks(() -> grain(16, last), "none, for the 40th", y -> y.read(0, 0), 0);
        CrowLikeness x = grain(16, all);
        x.place(0, 2, 326);
        Edge.due("at 326 it keeps the 39 days that go", x.read(0, 0), 1);
        x.place(0, 2, 327);
        Edge.due("at 327 it does not", x.read(0, 0), 0);
    }

    @Says("nothing changes.")
    static void p36_changesNothing() {
        for (int s = 0; s < 3; s++) {
            for (int likeness = 0; likeness < 4; likeness++) {
                int sheet = s;
                int l = likeness;
                Edge.leaves("read(" + s + ", " + likeness + ")", y -> y.read(sheet, l));
            }
        }
    }

    @Says("how many pairs of a SITTER and a CELL make it just so,")
    static void p36_whoCameJustNowToo() {
        CrowLikeness x = grain(8, 1, 1);
        x.sitter(5);
        Edge.due("a stranger who came keeps it too", x.read(0, 0), 2);
        x.set(2, 1, 9);
        Edge.due("and does not, once he is too mild", x.read(0, 0), 1);
        x.set(2, 1, 12);
        Edge.due("twelve at the cell are 24, one off 18", x.read(0, 0), 2);
        x.set(2, 1, 13);
        Edge.due("thirteen one off are 20", x.read(0, 0), 4);
    }

    @Says("numbers of a sheet are WHEAT of all CELLS together")
    static void p36_withoutWheatAndWithoutCrows() {
        CrowLikeness x = Edge.bare("sitter; dead temper 30; likeness 1 at 47");
        x.sheet(0, 8, 40);
        Edge.due("no wheat: 0 on each day", x.read(0, 0), 96);
        x.wheat(0, 1);
        x.crows(0);
        Edge.due("1 is not 0", x.read(0, 0), 0);
        x.book(0);
        Edge.due("no crows: 1 on each day", x.read(0, 0), 96);
    }

    @Says("(as old as it is).")
    static void p36_asOldAsItIs() {
        CrowLikeness x = grain(8, 1, 1);
        x.place(0, 2, 364);
        Edge.due("at 364", x.read(0, 0), 1);
        x.place(0, 2, 365);
        Edge.due("at 365", x.read(0, 0), 0);
        x.write(0, 1, 0);
        Edge.due("at 365 all let it be eaten", x.read(0, 0), 96);
    }

    @Says("numbers of a sheet are WHEAT of all CELLS together")
    static void p36_numbersThatWheatCannotBe() {
        for (long v : new long[] {-1, 2, 257, 65537, (1L << 32) + 1, Long.MIN_VALUE, Long.MAX_VALUE}) {
            Edge.asks(() -> grain(64, v), v + " of 64 bits", y -> y.read(0, 0), 0);
        }
        Edge.asks(() -> grain(8, 257), "257 is 1 in 8 bits", y -> y.read(0, 0), 96);
    }

    @Says("numbers of a sheet are WHEAT of all CELLS together")
    static void p36_inAsManyBitsAsItTakes() {
        for (int s = 0; s < 3; s++) {
            CrowLikeness x = Edge.plain("sitter; likeness 0 at 0; wheat 0 99 to 47; crows 0");
            x.sheet(s, WIDTHS[s], 40);
            x.book(s);
            Edge.due("4752 in " + WIDTHS[s] + " bits", x.read(s, 0), s == 0 ? 0 : 48);
        }
    }

    @Says("were a LIKENESS OF that SITTER AT that CELL")
    static void p36_theFirstAndTheEighthLikeness() {
        CrowLikeness x = Edge.bare("wheat 47 1; dead temper 20; dead temper 0");
        for (int l = 0; l < 8; l++) {
            x.likeness(1, l);
        }
        fill(x, 3, 8, 1, 1);
        Edge.due("read(3, 0)", x.read(3, 0), 1);
        Edge.due("read(3, 7)", x.read(3, 7), 1);
        x.place(7, 1, 0);
        x.place(7, 0, 47);
        Edge.due("the others wherever they are", x.read(3, 0), 96);
        Edge.due("and this one just there", x.read(3, 7), 1);
    }

    @Says("BEYOND: no such sheet.")
    static void p36_beyondOfSheet() {
        for (int s : Edge.outside(0, 3)) {
            Edge.refuses("read(" + s + ", 0)", y -> y.read(s, 0), Check.BEYOND);
        }
    }

    @Says("MISSING.")
    static void p36_missing() {
        Edge.refuses("read(3, 0)", y -> y.read(3, 0), Check.MISSING);
    }

    @Says("BEYOND: likeness.")
    static void p36_beyondOfLikeness() {
        for (int l : Edge.outside(0, 3)) {
            Edge.refuses("read(0, " + l + ")", y -> y.read(0, l), Check.BEYOND);
        }
        Edge.refuses(() -> sheetOf(8), "read(0, 0) where none is", y -> y.read(0, 0), Check.BEYOND);
        Edge.refuses(() -> sheetOf(8), "read(0, 8)", y -> y.read(0, 8), Check.BEYOND);
    }

    @Says({"THE READER:", "BEYOND: no such sheet. MISSING. BEYOND: likeness."})
    static void p36_missingIsAskedBeforeTheLikeness() {
        Edge.refuses("read(3, -1)", y -> y.read(3, -1), Check.MISSING);
        Edge.refuses(CrowLikeness::new, "read(0, 0)", y -> y.read(0, 0), Check.MISSING);
        Edge.refuses("read(4, -1)", y -> y.read(4, -1), Check.BEYOND);
        Edge.refuses("read(-1, 8)", y -> y.read(-1, 8), Check.BEYOND);
    }
}
