/** Promises 37 to 41: image, undo, tear, count, status. */
public final class ImagesTest {
    private static final Check CHECK = new Check();

    public static void main(String[] args) {
        imageAndUndo();
        whatNoImageKeeps();
        tear();
        count();
        status();
        CHECK.end("ImagesTest");
    }

    private static void change(CrowLikeness x) {
        x.wheat(7, 70);
        x.crows(9);
        x.sitter(4);
        x.sitter(5);
        x.set(0, 1, 1);
        x.set(0, 2, 2);
        x.turn(0, 3);
        x.likeness(1, 30);
        x.place(0, 0, 31);
        x.place(0, 1, 1);
        x.place(0, 2, 50);
        x.days(3);
    }

    private static void imageAndUndo() {
        CrowLikeness x = new CrowLikeness();
        CHECK.due("undo() of nothing", x.undo(), Check.NONE);
        Check.plainOf(x, "sitter temper 20; likeness 0 at 4; wheat 1 1");
        String first = Check.stateOf(x);
        CHECK.due("image()", x.image(), 1);
        CHECK.holds("image changes nothing", first.equals(Check.stateOf(x)));
        change(x);
        CHECK.due("undo()", x.undo(), 1);
        CHECK.holds("it is as it was", first.equals(Check.stateOf(x)));
        change(x);
        String second = Check.stateOf(x);
        CHECK.due("it stays", x.undo(), 1);
        CHECK.holds("it is as it was again", first.equals(Check.stateOf(x)));
        change(x);
        CHECK.holds("the same changes do the same", second.equals(Check.stateOf(x)));
        CHECK.due("a later image()", x.image(), 1);
        change(x);
        CHECK.due("the latest counts", x.undo(), 3);
        CHECK.holds("it is as it was then", second.equals(Check.stateOf(x)));
        CHECK.due("and no other is kept", x.undo(), 3);
        CHECK.due("status(3)", x.status(3), 1);
    }

    private static void whatNoImageKeeps() {
        CrowLikeness x = new CrowLikeness();
        x.sheet(0, 8, 2);
        x.write(0, 0, 5);
        x.feed('c', 1);
        x.image();
        x.write(0, 0, 6);
        x.sheet(1, 8, 1);
        x.feed('r', 1);
        x.wheat(48, 0);
        CHECK.due("undo()", x.undo(), 0);
        CHECK.due("sheets stay", x.write(0, 0, 0), 6);
        CHECK.due("a new sheet stays", x.write(1, 0, 0), 0);
        CHECK.due("the tape stays", x.count(1), 2);
        CHECK.due("status stays", x.status(0), 1);
    }

    private static void tear() {
        CrowLikeness x = new CrowLikeness();
        CHECK.due("tear() of nothing", x.tear(), 0);
        x.image();
        x.image();
        CHECK.due("tear()", x.tear(), 1);
        CHECK.due("tear() again", x.tear(), 0);
        CHECK.due("undo()", x.undo(), Check.NONE);
        x.sitter(0);
        x.image();
        CHECK.due("undo() of a new one", x.undo(), 1);
    }

    private static void count() {
        CrowLikeness x = new CrowLikeness();
        Check.plainOf(x, "sitter temper 7; lady temper 30; dead; likeness 1 at 1; likeness 1 at 2");
        Check.feedText(x, "abcde");
        int[] due = {3, 5, 2, 47};
        for (int what = 0; what < 4; what++) {
            CHECK.due("count(" + what + ")", x.count(what), due[what]);
        }
        for (int what : new int[] {-1, 4, Integer.MIN_VALUE, Integer.MAX_VALUE}) {
            CHECK.due("count(" + what + ")", x.count(what), Check.BEYOND);
        }
        CHECK.due("status(0)", x.status(0), 4);
    }

    private static void status() {
        CrowLikeness x = new CrowLikeness();
        for (int which = -1; which < 7; which++) {
            CHECK.due("new: status(" + which + ")", x.status(which), 0);
        }
        CHECK.due("status(7)", x.status(7), Check.BEYOND);
        CHECK.due("counted from then on", x.status(0), 1);
        CHECK.due("status(-2)", x.status(-2), Check.BEYOND);
        CHECK.due("status(MIN)", x.status(Integer.MIN_VALUE), Check.BEYOND);
        CHECK.due("status(MAX)", x.status(Integer.MAX_VALUE), Check.BEYOND);
        for (int s = 0; s < 7; s++) {
            x.sitter(0);
        }
        x.as(0, 1);
        x.as(0, 2);
        x.undo();
        x.undo();
        x.undo();
        x.lays(0);
        x.sheet(0, 8, -1);
        x.sheet(0, 8, -1);
        x.crows(0);
        for (int i = 0; i < 166; i++) {
            x.days(60);
        }
        x.days(60);
        x.plain();
        int[] each = {4, 1, 2, 3, 1, 1, 2};
        CHECK.due("status(-1)", x.status(-1), 14);
        for (int which = 0; which < 7; which++) {
            CHECK.due("status(" + which + ")", x.status(which), each[which]);
        }
        x.image();
        x.undo();
        CHECK.due("undo() takes none back", x.status(-1), 14);
    }
}
