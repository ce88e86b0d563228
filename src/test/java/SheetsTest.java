/** Promises 31 to 36: sheet, write, copy, lays, book, read. */
public final class SheetsTest {
    private static final int[] NO_SHEETS = {-1, 4, Integer.MIN_VALUE, Integer.MAX_VALUE};

    private static final Check CHECK = new Check();

    public static void main(String[] args) {
        sheet();
        write();
        copy();
        copyFindings();
        lays();
        book();
        read();
        readAsOldAsItIs();
        CHECK.end("SheetsTest");
    }

    private static void sheet() {
        CrowLikeness x = new CrowLikeness();
        CHECK.due("sheet(0, 8, 0)", x.sheet(0, 8, 0), 0);
        CHECK.due("sheet(3, 16, 40)", x.sheet(3, 16, 40), 40);
        CHECK.due("its last number", x.write(3, 39, 7), 0);
        CHECK.due("made anew", x.sheet(3, 16, 40), 40);
        CHECK.due("it is 0 again", x.write(3, 39, 7), 0);
        CHECK.due("sheet(1, 64, 5)", x.sheet(1, 64, 5), 5);
        CHECK.due("sheet(1, 0, 5)", x.sheet(1, 0, 5), 0);
        CHECK.due("it is missing", x.write(1, 0, 1), Check.MISSING);
        CHECK.due("an empty one is not", x.write(0, 0, 1), Check.BEYOND);
        for (int s : NO_SHEETS) {
            CHECK.due("sheet(" + s + ", 8, -1)", x.sheet(s, 8, -1), Check.BEYOND);
        }
        for (int bits : new int[] {-1, 1, 7, 9, 32, 65, 128, Integer.MIN_VALUE, Integer.MAX_VALUE}) {
            CHECK.due("sheet(3, " + bits + ", -1)", x.sheet(3, bits, -1), Check.BEYOND);
        }
        for (int bits : new int[] {0, 8, 16, 64}) {
            CHECK.due("sheet(3, " + bits + ", -1)", x.sheet(3, bits, -1), Check.SIZE);
            CHECK.due("sheet(3, " + bits + ", MIN)", x.sheet(3, bits, Integer.MIN_VALUE), Check.SIZE);
            CHECK.due("sheet(3, " + bits + ", 41)", x.sheet(3, bits, 41), Check.BEYOND);
            CHECK.due("sheet(3, " + bits + ", MAX)", x.sheet(3, bits, Integer.MAX_VALUE), Check.BEYOND);
        }
        CHECK.due("a finding changes nothing", x.write(3, 39, 0), 7);
        CHECK.due("status(6)", x.status(6), 8);
        CHECK.due("status(0)", x.status(0), 22);
        CHECK.due("status(5)", x.status(5), 1);
    }

    private static void write() {
        CrowLikeness x = new CrowLikeness();
        x.sheet(0, 8, 3);
        x.sheet(1, 16, 3);
        x.sheet(2, 64, 3);
        for (int s = 0; s < 3; s++) {
            CHECK.due("write(" + s + ", 2, 100)", x.write(s, 2, 100), 0);
            CHECK.due("what it was", x.write(s, 2, 0x123456789abcde05L), 100);
        }
        CHECK.due("the lowest 8 bits", x.write(0, 2, 127), 5);
        CHECK.due("the lowest 16 bits, with their sign", x.write(1, 2, 32767), (short) 0xde05);
        CHECK.due("all 64 bits", x.write(2, 2, -1), 0x123456789abcde05L);
        CHECK.due("127", x.write(0, 2, 128), 127);
        CHECK.due("32767", x.write(1, 2, 32768), 32767);
        CHECK.due("-1", x.write(2, 2, Long.MIN_VALUE), -1);
        CHECK.due("128 in 8 bits", x.write(0, 2, -1), -128);
        CHECK.due("32768 in 16 bits", x.write(1, 2, -1), -32768);
        CHECK.due("the least of 64 bits", x.write(2, 2, 0), Long.MIN_VALUE);
        CHECK.due("its neighbour", x.write(0, 1, 0), 0);
        for (int s : NO_SHEETS) {
            CHECK.due("write(" + s + ", -1, 0)", x.write(s, -1, 0), Check.BEYOND);
        }
        CHECK.due("write(3, -1, 0)", x.write(3, -1, 0), Check.MISSING);
        for (int i : new int[] {-1, 3, Integer.MIN_VALUE, Integer.MAX_VALUE}) {
            CHECK.due("write(0, " + i + ", 0)", x.write(0, i, 0), Check.BEYOND);
        }
        CHECK.due("status(0)", x.status(0), 8);
        CHECK.due("status(5)", x.status(5), 1);
    }

    private static CrowLikeness withNumbers() {
        CrowLikeness x = new CrowLikeness();
        x.sheet(0, 64, 6);
        x.sheet(1, 64, 4);
        x.sheet(2, 16, 6);
        for (int i = 0; i < 6; i++) {
            x.write(0, i, 10 + i);
        }
        return x;
    }

    private static void holds(CrowLikeness x, int s, long... due) {
        for (int i = 0; i < due.length; i++) {
            long was = x.write(s, i, 0);
            CHECK.due("number " + i + " of sheet " + s, was, due[i]);
            x.write(s, i, was);
        }
        CHECK.due("sheet " + s + " has no more", x.write(s, due.length, 0), Check.BEYOND);
    }

    private static void copy() {
        CrowLikeness x = withNumbers();
        CHECK.due("copy(0, 2, 1, 1, 3)", x.copy(0, 2, 1, 1, 3), 3);
        holds(x, 1, 0, 12, 13, 14);
        holds(x, 0, 10, 11, 12, 13, 14, 15);
        CHECK.due("forward within one", x.copy(0, 0, 0, 1, 5), 5);
        holds(x, 0, 10, 10, 11, 12, 13, 14);
        CHECK.due("backward within one", x.copy(0, 2, 0, 0, 4), 4);
        holds(x, 0, 11, 12, 13, 14, 13, 14);
        CHECK.due("none", x.copy(0, 3, 1, 2, 0), 0);
        CHECK.due("none, from the end to the end", x.copy(0, 6, 1, 4, 0), 0);
        CHECK.due("all of it", x.copy(1, 0, 0, 2, 4), 4);
        holds(x, 0, 11, 12, 0, 12, 13, 14);
    }

    private static void copyFindings() {
        CrowLikeness x = withNumbers();
        for (int s : NO_SHEETS) {
            CHECK.due("copy from " + s, x.copy(s, 0, 3, 0, -1), Check.BEYOND);
            CHECK.due("copy to " + s, x.copy(3, 0, s, 0, -1), Check.BEYOND);
        }
        CHECK.due("from a missing one", x.copy(3, 0, 0, 0, -1), Check.MISSING);
        CHECK.due("to a missing one", x.copy(0, 0, 3, 0, -1), Check.MISSING);
        CHECK.due("from a missing one to itself", x.copy(3, 0, 3, 0, 0), Check.MISSING);
        CHECK.due("of other bits", x.copy(0, -1, 2, 0, 1), Check.KIND);
        CHECK.due("of other bits, none", x.copy(2, 0, 0, 0, 0), Check.KIND);
        int[][] off = {{-1, 0, 1}, {0, -1, 1}, {0, 0, -1}, {0, 0, 5}, {3, 0, 4}, {0, 1, 4}, {6, 0, 1}, {7, 0, 0},
            {0, 5, 0}, {Integer.MAX_VALUE, 0, Integer.MAX_VALUE}, {0, Integer.MAX_VALUE, 1}, {1, 0, Integer.MAX_VALUE},
            {Integer.MIN_VALUE, 0, Integer.MIN_VALUE}, {0, Integer.MIN_VALUE, 1}};
        for (int[] o : off) {
            CHECK.due("copy(0, " + o[0] + ", 1, " + o[1] + ", " + o[2] + ")", x.copy(0, o[0], 1, o[1], o[2]),
                Check.BEYOND);
        }
        holds(x, 0, 10, 11, 12, 13, 14, 15);
        holds(x, 1, 0, 0, 0, 0);
        CHECK.due("status(0)", x.status(0), 24);
        CHECK.due("status(5)", x.status(5), 3);
        CHECK.due("status(2)", x.status(2), 2);
    }

    private static void lays() {
        CrowLikeness x = new CrowLikeness();
        x.sheet(0, 64, 6);
        long[] numbers = {99, 100, -1, 0, 1L << 32, 7};
        for (int i = 0; i < 6; i++) {
            x.write(0, i, numbers[i]);
        }
        CHECK.due("lays(0)", x.lays(0), 3);
        int[] due = {99, 10, 10, 0, 10, 7, 10};
        for (int c = 0; c < due.length; c++) {
            CHECK.due("cell(" + c + ", 0)", x.cell(c, 0), due[c]);
        }
        x.sheet(1, 8, 40);
        CHECK.due("lays(1)", x.lays(1), 40);
        CHECK.due("now(2)", x.now(2), 80);
        x.sheet(1, 8, 0);
        CHECK.due("lays(1) of none", x.lays(1), 0);
        for (int s : NO_SHEETS) {
            CHECK.due("lays(" + s + ")", x.lays(s), Check.BEYOND);
        }
        CHECK.due("lays(2)", x.lays(2), Check.MISSING);
        CHECK.due("status(0)", x.status(0), 4);
        CHECK.due("status(5)", x.status(5), 1);
    }

    private static void book() {
        CrowLikeness x = new CrowLikeness();
        x.sheet(0, 64, 4);
        x.sheet(1, 8, 2);
        String before = Check.stateOf(x);
        CHECK.due("book(0)", x.book(0), 4);
        holds(x, 0, 480, 474, 468, 462);
        CHECK.due("book(1)", x.book(1), 2);
        holds(x, 1, (byte) 480, (byte) 474);
        CHECK.holds("nothing changes", before.equals(Check.stateOf(x)));
        x.sheet(2, 16, 0);
        CHECK.due("book(2) of none", x.book(2), 0);
        x.sheet(2, 16, 40);
        Check.plainOf(x, "wheat 0 0 to 47; wheat 20 99; stranger temper 20; likeness 0 at 20");
        CHECK.due("book(2)", x.book(2), 40);
        CHECK.due("the stranger's week", x.write(2, 7, 0), 99);
        CHECK.due("the day behind it", x.write(2, 8, 0), 93);
        CHECK.due("the last", x.write(2, 39, 0), 0);
        x.place(0, 0, 47);
        x.book(2);
        CHECK.due("once it was moved away", x.write(2, 1, 0), 93);
        x.turn(0, 3);
        x.book(2);
        CHECK.due("the dead, away", x.write(2, 1, 0), 93);
        x.place(0, 0, 20);
        x.book(2);
        CHECK.due("the dead, there", x.write(2, 39, 0), 99);
        for (int s : NO_SHEETS) {
            CHECK.due("book(" + s + ")", x.book(s), Check.BEYOND);
        }
        CHECK.due("book(3)", x.book(3), Check.MISSING);
        CHECK.due("status(5)", x.status(5), 1);
    }

    private static void read() {
        CrowLikeness x = new CrowLikeness();
        Check.plainOf(x, "wheat 0 0 to 47; wheat 20 10; dead temper 23; dead; likeness 0 at 3");
        x.sheet(0, 16, 2);
        x.sheet(1, 8, 0);
        x.write(0, 0, 10);
        x.write(0, 1, 10);
        String before = Check.stateOf(x);
        CHECK.due("only the first, and one off at most", x.read(0, 0), 5);
        x.write(0, 1, 4);
        CHECK.due("all the others", x.read(0, 0), 91);
        x.write(0, 1, 5);
        CHECK.due("none", x.read(0, 0), 0);
        x.write(0, 0, 11);
        x.write(0, 1, 4);
        CHECK.due("the first number counts too", x.read(0, 0), 0);
        CHECK.due("no number: every pair", x.read(1, 0), 96);
        CHECK.holds("nothing changes", before.equals(Check.stateOf(x)));
        for (int s : NO_SHEETS) {
            CHECK.due("read(" + s + ", -1)", x.read(s, -1), Check.BEYOND);
        }
        CHECK.due("read(3, -1)", x.read(3, -1), Check.MISSING);
        for (int l : new int[] {-1, 1, Integer.MIN_VALUE, Integer.MAX_VALUE}) {
            CHECK.due("read(0, " + l + ")", x.read(0, l), Check.BEYOND);
        }
        CHECK.due("status(0)", x.status(0), 8);
        CHECK.due("status(5)", x.status(5), 1);
    }

    private static void readAsOldAsItIs() {
        CrowLikeness x = new CrowLikeness();
        Check.plainOf(x, "wheat 0 0 to 47; wheat 20 10; stranger temper 10; likeness 0 at 3");
        x.sheet(0, 16, 2);
        x.write(0, 0, 10);
        x.write(0, 1, 10);
        CHECK.due("only at the wheat itself", x.read(0, 0), 1);
        x.place(0, 2, 7);
        CHECK.due("nowhere after a week", x.read(0, 0), 0);
    }
}
