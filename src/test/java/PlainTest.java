/** Promises 1 to 4: a new object, wheat, cell, crows. */
public final class PlainTest {
    private static final int[] NO_CELLS = {-1, 48, Integer.MIN_VALUE, Integer.MAX_VALUE};

    private static final Check CHECK = new Check();

    public static void main(String[] args) {
        newObject();
        wheat();
        cellTellsWheat();
        fearOfOneAndOfSeveral();
        ladiesDraw();
        likenessesAtACell();
        crows();
        CHECK.end("PlainTest");
    }

    private static void newObject() {
        CrowLikeness x = new CrowLikeness();
        CHECK.due("new: status(-1)", x.status(-1), 0);
        for (int what = 0; what < 4; what++) {
            CHECK.due("new: count(" + what + ")", x.count(what), 0);
        }
        CHECK.due("new: now(0)", x.now(0), 0);
        CHECK.due("new: now(1)", x.now(1), 3);
        CHECK.due("new: now(2)", x.now(2), 480);
        for (int c = 0; c < 48; c++) {
            CHECK.due("new: cell(" + c + ", 0)", x.cell(c, 0), 10);
            CHECK.due("new: cell(" + c + ", 1)", x.cell(c, 1), 1000);
            CHECK.due("new: cell(" + c + ", 2)", x.cell(c, 2), 0);
        }
        CHECK.due("new: undo()", x.undo(), Check.NONE);
        CHECK.due("new: tear()", x.tear(), 0);
        for (int s = 0; s < 4; s++) {
            CHECK.due("new: lays(" + s + ")", x.lays(s), Check.MISSING);
        }
        CrowLikeness y = new CrowLikeness();
        x.wheat(0, 1);
        CHECK.due("another object is its own", y.cell(0, 0), 10);
    }

    private static void wheat() {
        CrowLikeness x = new CrowLikeness();
        CHECK.due("wheat(0, 99)", x.wheat(0, 99), 10);
        CHECK.due("wheat(0, 0)", x.wheat(0, 0), 99);
        CHECK.due("wheat(47, 5)", x.wheat(47, 5), 10);
        CHECK.due("wheat(47, 6)", x.wheat(47, 6), 5);
        CHECK.due("now(2)", x.now(2), 466);
        String before = Check.stateOf(x);
        for (int cell : NO_CELLS) {
            CHECK.due("wheat of cell " + cell, x.wheat(cell, 3), Check.BEYOND);
        }
        for (int v : new int[] {-1, 100, Integer.MIN_VALUE, Integer.MAX_VALUE}) {
            CHECK.due("wheat of " + v, x.wheat(3, v), Check.BEYOND);
        }
        CHECK.holds("a finding of wheat changes nothing", before.equals(Check.stateOf(x)));
        CHECK.due("status(0)", x.status(0), 8);
    }

    private static void cellTellsWheat() {
        CrowLikeness x = new CrowLikeness();
        x.wheat(13, 77);
        CHECK.due("cell(13, 0)", x.cell(13, 0), 77);
        for (int cell : NO_CELLS) {
            for (int what = 0; what < 3; what++) {
                CHECK.due("cell(" + cell + ", " + what + ")", x.cell(cell, what), Check.BEYOND);
            }
        }
        for (int what : new int[] {-1, 3, Integer.MIN_VALUE, Integer.MAX_VALUE}) {
            CHECK.due("cell(0, " + what + ")", x.cell(0, what), Check.BEYOND);
        }
        CHECK.due("status(0)", x.status(0), 16);
    }

    private static void fearOfOneAndOfSeveral() {
        CrowLikeness x = new CrowLikeness();
        x.sitter(0);
        x.set(0, 1, 30);
        CHECK.due("a sitter without a likeness: cell(0, 1)", x.cell(0, 1), 1000);
        x.likeness(0, 0);
        CHECK.due("at itself", x.cell(0, 1), 1030);
        CHECK.due("a row and a column off", x.cell(9, 1), 1024);
        CHECK.due("a row off", x.cell(8, 1), 1027);
        CHECK.due("the end of the row is 7 off", x.cell(7, 1), 1009);
        CHECK.due("the far corner is 12 off", x.cell(47, 1), 1000);
        x.likeness(0, 2);
        CHECK.due("of two of one only the most", x.cell(1, 1), 1027);
        CHECK.due("the nearer one", x.cell(3, 1), 1027);
        x.sitter(3);
        x.set(1, 1, 20);
        x.likeness(1, 1);
        CHECK.due("those of two together", x.cell(1, 1), 1047);
        CHECK.due("and farther off", x.cell(0, 1), 1047);
        x.sitter(1);
        x.likeness(2, 47);
        CHECK.due("and a bailiff's from afar", x.cell(0, 1), 1050);
    }

    private static void ladiesDraw() {
        CrowLikeness x = new CrowLikeness();
        x.sitter(4);
        x.set(0, 1, 30);
        x.likeness(0, 0);
        CHECK.due("a lady's at itself", x.cell(0, 1), 985);
        CHECK.due("a lady's 3 off", x.cell(3, 1), 991);
        CHECK.due("a lady's 7 off", x.cell(7, 1), 999);
        CHECK.due("a lady's 8 off", x.cell(15, 1), 1000);
        x.likeness(0, 3);
        CHECK.due("of two the one that scares most", x.cell(0, 1), 991);
        x.sitter(0);
        x.likeness(1, 0);
        CHECK.due("with a sitter's", x.cell(0, 1), 1001);
        CHECK.due("below 0 together", x.cell(1, 1), 996);
    }

    private static void likenessesAtACell() {
        CrowLikeness x = new CrowLikeness();
        x.sitter(0);
        x.likeness(0, 9);
        x.likeness(0, 10);
        x.likeness(0, 9);
        CHECK.due("cell(9, 2)", x.cell(9, 2), 5);
        CHECK.due("cell(10, 2)", x.cell(10, 2), 2);
        CHECK.due("cell(11, 2)", x.cell(11, 2), 0);
        x.place(0, 0, 10);
        CHECK.due("cell(10, 2) once moved", x.cell(10, 2), 3);
    }

    private static void crows() {
        CrowLikeness x = new CrowLikeness();
        CHECK.due("crows(20)", x.crows(20), 3);
        CHECK.due("crows(0)", x.crows(0), 20);
        CHECK.due("now(1)", x.now(1), 0);
        for (int v : new int[] {-1, 21, Integer.MIN_VALUE, Integer.MAX_VALUE}) {
            CHECK.due("crows(" + v + ")", x.crows(v), Check.BEYOND);
        }
        CHECK.due("now(1) as before", x.now(1), 0);
        CHECK.due("status(0)", x.status(0), 4);
    }
}
