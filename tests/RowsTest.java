/** Promises 1 to 5 and 31: a new object, row, set, copy, drop, status. */
public final class RowsTest {
    public static void main(String[] args) {
        aNewObject();
        row();
        set();
        copy();
        drop();
        status();
        Due.end();
    }

    private static void aNewObject() {
        HummingDisc x = new HummingDisc();
        for (int what = 0; what <= 5; what++) Due.is("count(" + what + ")", x.count(what), 0);
        Due.is("fault()", x.fault(), 0);
        Due.is("forces()", x.forces(), Due.NONE);
        Due.is("trace(0)", x.trace(0), Due.NONE);
        Due.is("status()", x.status(), 0);
        Due.is("best()", x.best(1, 1, 1), Due.STATE);
        Due.is("image(0)", x.image(0), Due.STATE);
        Due.is("restore(1)", x.restore(1), Due.STATE);
        Due.is("kind()", x.kind(), Due.STATE);
        Due.is("drop(7)", x.drop(7), Due.NULL);
    }

    private static void row() {
        HummingDisc x = new HummingDisc();
        Due.is("row(0, 0, 0)", x.row(0, 0, 0), 0);
        Due.is("row(7, 2, 40)", x.row(7, 2, 40), 40);
        Due.is("ROWS", x.count(0), 2);
        Due.is("row(8, 0, 1)", x.row(8, 0, 1), Due.BAD);
        Due.is("row(-1, 0, 1)", x.row(-1, 0, 1), Due.BAD);
        Due.is("row(1, 3, 1)", x.row(1, 3, 1), Due.BAD);
        Due.is("row(1, -1, 1)", x.row(1, -1, 1), Due.BAD);
        Due.is("row(1, 1, 41)", x.row(1, 1, 41), Due.BAD);
        Due.is("row(1, 1, -1)", x.row(1, 1, -1), Due.SIZE);
        Due.is("row(9, 1, -1)", x.row(9, 1, -1), Due.BAD);
        Due.is("row(7, 1, -1)", x.row(7, 1, -1), Due.SIZE);
        Due.is("a ROW refused leaves what was there", x.set(7, 39, 70000), 70000);
        Due.is("ROWS", x.count(0), 2);
        Due.is("row(7, 1, 40) anew", x.row(7, 1, 40), 40);
        Due.is("its LANE is another", x.set(7, 0, 70000), 4464);
        Due.is("its ITEMS are 0 at first", itemOf(x, 7, 1, 39), 0);
        Due.is("row(7, 1, 2) anew", x.row(7, 1, 2), 2);
        Due.is("it is shorter", x.set(7, 2, 1), Due.PLACE);
    }

    /** An ITEM as sound() hears it, by a DISC of one tooth. */
    private static int itemOf(HummingDisc x, int row, int lane, int i) {
        if (x.count(1) == 0) Due.read(x, "disc 1 0 1; thread 1 1 1 1; hand;");
        Due.is("row(6)", x.row(6, lane, 2), 2);
        Due.is("copy()", x.copy(row, i, 6, 0, 1), 1);
        return x.sound(0, 6, 0, 2, 1);
    }

    private static void set() {
        HummingDisc x = new HummingDisc();
        Due.is("set(0, 0, 1)", x.set(0, 0, 1), Due.NULL);
        Due.is("set(0, -1, 1)", x.set(0, -1, 1), Due.NULL);
        x.row(0, 0, 3);
        x.row(1, 1, 3);
        x.row(2, 2, 3);
        Due.is("a byte 127", x.set(0, 0, 127), 127);
        Due.is("a byte 128", x.set(0, 1, 128), -128);
        Due.is("a byte -129", x.set(0, 2, -129), 127);
        Due.is("a byte 511", x.set(0, 2, 511), -1);
        Due.is("a short 32767", x.set(1, 0, 32767), 32767);
        Due.is("a short 32768", x.set(1, 0, 32768), -32768);
        Due.is("a short -65537", x.set(1, 0, -65537), -1);
        Due.is("an int", x.set(2, 2, Integer.MIN_VALUE), Integer.MIN_VALUE);
        Due.is("set(0, 3, 1)", x.set(0, 3, 1), Due.PLACE);
        Due.is("set(0, -1, 1)", x.set(0, -1, 1), Due.PLACE);
        Due.is("set(0, max, 1)", x.set(0, Integer.MAX_VALUE, 1), Due.PLACE);
        Due.is("set(8, 0, 1)", x.set(8, 0, 1), Due.BAD);
        Due.is("set(-1, 0, 1)", x.set(-1, 0, 1), Due.BAD);
    }

    private static void copy() {
        HummingDisc x = new HummingDisc();
        Due.row(x, 0, 1, 1, 2, 3, 4, 5);
        Due.row(x, 1, 1, 0, 0, 0);
        Due.row(x, 2, 2, 0, 0, 0);
        Due.is("copy(0, 0, 0, 1, 4) upon itself", x.copy(0, 0, 0, 1, 4), 4);
        for (int i = 0; i < 5; i++) Due.is("ITEM " + i, itemOf(x, 0, 1, i), i == 0 ? 1 : i);
        Due.is("copy(0, 2, 0, 0, 3) downwards", x.copy(0, 2, 0, 0, 3), 3);
        for (int i = 0; i < 5; i++) Due.is("ITEM " + i, itemOf(x, 0, 1, i), i < 3 ? i + 2 : i);
        Due.is("copy(0, 1, 1, 2, 1)", x.copy(0, 1, 1, 2, 1), 1);
        Due.is("it came", itemOf(x, 1, 1, 2), 3);
        Due.is("none else came", itemOf(x, 1, 1, 1), 0);
        Due.is("none at the ends", x.copy(0, 5, 1, 3, 0), 0);
        Due.is("beyond a's end", x.copy(0, 5, 1, 0, 1), Due.PLACE);
        Due.is("beyond b's end", x.copy(0, 0, 1, 3, 1), Due.PLACE);
        Due.is("none beyond a's end", x.copy(0, 6, 1, 0, 0), Due.PLACE);
        Due.is("i below 0", x.copy(0, -1, 1, 0, 1), Due.PLACE);
        Due.is("j below 0", x.copy(0, 0, 1, -1, 1), Due.PLACE);
        Due.is("n below 0", x.copy(0, 1, 1, 1, -1), Due.PLACE);
        Due.is("nothing wraps", x.copy(0, 1, 1, 1, Integer.MAX_VALUE), Due.PLACE);
        Due.is("two LANES, ahead of PLACE", x.copy(0, -1, 2, 0, 1), Due.STORE);
        Due.is("a missing one, ahead of two LANES", x.copy(2, 0, 3, 0, 1), Due.NULL);
        Due.is("a missing source", x.copy(3, 0, 2, 0, 1), Due.NULL);
        Due.is("no such a", x.copy(8, 0, 3, 0, 1), Due.BAD);
        Due.is("no such b", x.copy(3, 0, -1, 0, 1), Due.BAD);
    }

    private static void drop() {
        HummingDisc x = new HummingDisc();
        x.row(4, 0, 17);
        Due.is("drop(4)", x.drop(4), 17);
        Due.is("drop(4) again", x.drop(4), Due.NULL);
        Due.is("ROWS", x.count(0), 0);
        Due.is("set(4, 0, 1)", x.set(4, 0, 1), Due.NULL);
        Due.is("drop(8)", x.drop(8), Due.BAD);
        Due.is("drop(-1)", x.drop(-1), Due.BAD);
    }

    private static void status() {
        HummingDisc x = new HummingDisc();
        x.drop(0);
        Due.is("behind NULL", x.status(), 1);
        x.drop(8);
        Due.is("BAD leaves it", x.status(), 1);
        x.go(1);
        x.pulls(0, 0, 1);
        Due.is("STATE leaves it", x.status(), 1);
        x.row(0, 0, 2);
        Due.is("behind no FINDING", x.status(), 0);
        x.set(0, 2, 0);
        Due.is("behind PLACE", x.status(), 2);
        x.row(1, 0, -1);
        Due.is("behind SIZE", x.status(), 4);
        x.row(1, 1, 2);
        x.copy(0, 0, 1, 0, 1);
        Due.is("behind STORE", x.status(), 5);
        x.count(0);
        x.feed(0, 1);
        x.trace(0);
        Due.is("calls without a ROW leave it", x.status(), 5);
        Due.is("copy()", x.copy(0, 0, 0, 1, 1), 1);
        Due.is("behind copy()", x.status(), 0);
        Due.read(x, "");
        Due.read(x, "disc 1 0 1; thread 1 1 9 1; hand;");
        x.begin(0, 0, 0, 9);
        Due.is("as(1)", x.as(1), Due.KIND);
        Due.is("behind KIND", x.status(), 3);
        x.as(6);
        Due.is("BAD leaves it", x.status(), 3);
        x.as(3);
        Due.is("behind as()", x.status(), 0);
        Due.is("pulls()", x.pulls(5, 0, 1), Due.NULL);
        Due.is("behind pulls()", x.status(), 1);
        x.pulls(0, 0, 1);
        Due.is("behind pulls() that goes", x.status(), 0);
        x.set(0, 0, -1);
        x.drop(3);
        Due.is("sound() of a bad ITEM", x.sound(0, 0, 0, 2, 0), Due.BAD);
        Due.is("tune() of a bad ITEM", x.tune(0, 0, 9, 0, 0, 1), Due.BAD);
        Due.is("pulls() of a bad ITEM", x.pulls(0, 0, 1), Due.BAD);
        Due.is("BAD of an ITEM leaves it", x.status(), 1);
        Due.is("sound()", x.sound(0, 0, 1, 2, 0), Due.PLACE);
        Due.is("behind sound()", x.status(), 2);
        x.set(0, 0, 1);
        Due.is("tune()", x.tune(0, 0, 9, 0, 2, 1), Due.PLACE);
        Due.is("behind tune()", x.status(), 2);
        x.tune(0, 0, 9, 0, 0, 1);
        Due.is("behind tune() that finds forces", x.status(), 0);
    }
}
