/** Terms 1 (ROWS), promises 1 to 5: a new object, row, set, copy, drop. Each test is for one sentence. */
public final class RowsTest {
    public static void main(String[] args) {
        rowsInTheTerms();
        findings();
        aNewObject();
        row();
        set();
        copy();
        drop();
        Due.end();
    }

    private static void rowsInTheTerms() {
        missingAtFirst();
        eightOfThem();
        lanes();
        noneToFortyItems();
        zeroAtFirst();
    }

    private static void missingAtFirst() {
        Due.says("Terms", "ROWS 0 .. 7 are missing (at first),");
        HummingDisc x = new HummingDisc();
        for (int row = 0; row < 8; row++) Due.is("drop(" + row + ")", x.drop(row), Due.NULL);
        Due.is("ROWS", x.count(0), 0);
    }

    private static void eightOfThem() {
        Due.says("Terms", "ROWS 0 .. 7");
        HummingDisc x = new HummingDisc();
        for (int row = 0; row < 8; row++) Due.is("row(" + row + ", 2, 1)", x.row(row, 2, 1), 1);
        for (int row = 0; row < 8; row++) Due.is("set(" + row + ", 0, " + row + ")", x.set(row, 0, row), row);
        Due.is("ROWS", x.count(0), 8);
        Due.is("row(8, 2, 1)", x.row(8, 2, 1), Due.BAD);
        Due.is("ROWS", x.count(0), 8);
        for (int row = 0; row < 7; row++) Due.is("ROW " + row + " is its own", Due.item(x, row, 2, 0), row);
    }

    private static void lanes() {
        Due.says("Terms", "or have a LANE (0 bytes, 1 shorts, 2 ints)");
        HummingDisc x = new HummingDisc();
        for (int lane = 0; lane < 3; lane++) x.row(lane, lane, 1);
        Due.is("a byte", x.set(0, 0, 0x12345678), 0x78);
        Due.is("a short", x.set(1, 0, 0x12345678), 0x5678);
        Due.is("an int", x.set(2, 0, 0x12345678), 0x12345678);
        Due.is("no LANE 3", x.row(3, 3, 1), Due.BAD);
    }

    private static void noneToFortyItems() {
        Due.says("Terms", "and 0 to 40 ITEMS,");
        HummingDisc x = new HummingDisc();
        Due.is("row(0, 0, 0)", x.row(0, 0, 0), 0);
        Due.is("one without ITEMS is not missing", x.count(0), 1);
        Due.is("it has no ITEM 0", x.set(0, 0, 1), Due.PLACE);
        Due.is("row(0, 0, 40)", x.row(0, 0, 40), 40);
        Due.is("it has an ITEM 39", x.set(0, 39, 1), 1);
        Due.is("it has no ITEM 40", x.set(0, 40, 1), Due.PLACE);
    }

    private static void zeroAtFirst() {
        Due.says("Terms", "ITEMS, 0 at first.");
        HummingDisc x = new HummingDisc();
        x.row(0, 1, 40);
        for (int i = 0; i < 40; i++) Due.is("ITEM " + i, Due.item(x, 0, 1, i), 0);
        x = new HummingDisc();
        x.row(0, 1, 40);
        for (int i = 0; i < 40; i++) x.set(0, i, 7);
        x.row(0, 1, 40);
        for (int i = 0; i < 40; i++) Due.is("ITEM " + i + " anew", Due.item(x, 0, 1, i), 0);
        x = new HummingDisc();
        x.row(0, 1, 1);
        x.set(0, 0, 7);
        x.drop(0);
        x.row(0, 1, 1);
        Due.is("ITEM 0 of one that was missing", Due.item(x, 0, 1, 0), 0);
    }

    private static void findings() {
        findingNull();
        findingPlace();
        findingSize();
        findingStore();
    }

    private static void findingNull() {
        Due.says("Terms", "-1000010 less 1 NULL (a ROW that is missing),");
        HummingDisc x = new HummingDisc();
        x.row(0, 0, 1);
        x.row(1, 1, 1);
        Due.is("set(2, 0, 1)", x.set(2, 0, 1), -1000011);
    }

    private static void findingPlace() {
        Due.says("Terms", "2 PLACE (no such place of a ROW),");
        HummingDisc x = new HummingDisc();
        x.row(0, 0, 1);
        x.row(1, 1, 1);
        Due.is("set(0, 1, 1)", x.set(0, 1, 1), -1000012);
    }

    private static void findingSize() {
        Due.says("Terms", "4 SIZE (fewer than none),");
        HummingDisc x = new HummingDisc();
        x.row(0, 0, 1);
        x.row(1, 1, 1);
        Due.is("row(0, 0, -1)", x.row(0, 0, -1), -1000014);
    }

    private static void findingStore() {
        Due.says("Terms", "5 STORE (ROWS of two LANES).");
        HummingDisc x = new HummingDisc();
        x.row(0, 0, 1);
        x.row(1, 1, 1);
        Due.is("copy(0, 0, 1, 0, 1)", x.copy(0, 0, 1, 0, 1), -1000015);
    }

    private static void aNewObject() {
        Due.says("Promise 1", "No BOX.");
        HummingDisc x = new HummingDisc();
        for (int what = 1; what <= 4; what++) Due.is("count(" + what + ")", x.count(what), 0);
        Due.is("shorter(0, 0, 0)", x.shorter(0, 0, 0), Due.BAD);
        Due.is("begin(0, 0, 0, 0)", x.begin(0, 0, 0, 0), Due.BAD);
        Due.is("greatest(0, 0, 1, 1, 1, 0)", x.greatest(0, 0, 1, 1, 1, 0), Due.BAD);
        Due.is("wobble(0, 1)", x.wobble(0, 1), Due.BAD);
        Due.is("best(1, 1, 1)", x.best(1, 1, 1), Due.STATE);
        Due.is("image(0)", x.image(0), Due.STATE);
        Due.is("kind()", x.kind(), Due.STATE);
        HummingDisc other = Due.of("disc 1 0 1; thread 1 1 1 1; hand;");
        Due.is("count(1) of one that read", other.count(1), 1);
        Due.is("count(1) of a new one behind it", new HummingDisc().count(1), 0);
    }

    // ---- promise 2

    private static void row() {
        itHasItsItems();
        rowInPlace();
        rowAnswersN();
        rowBadRow();
        rowBadLane();
        rowAboveForty();
        rowSize();
        rowBadAheadOfSize();
        rowRefusedLeavesIt();
    }

    private static void itHasItsItems() {
        Due.says("Promise 2", "A ROW of a LANE with n ITEMS,");
        HummingDisc x = new HummingDisc();
        x.row(3, 1, 5);
        for (int i = 0; i < 5; i++) Due.is("set(3, " + i + ", 40000)", x.set(3, i, 40000), -25536);
        Due.is("set(3, 5, 40000)", x.set(3, 5, 40000), Due.PLACE);
        Due.is("the others are missing", x.count(0), 1);
    }

    private static void rowInPlace() {
        Due.says("Promise 2", "in place of what is there:");
        HummingDisc x = new HummingDisc();
        x.row(3, 0, 5);
        Due.is("a longer one", x.row(3, 2, 9), 9);
        Due.is("its LANE", x.set(3, 8, 100000), 100000);
        Due.is("a shorter one", x.row(3, 2, 2), 2);
        Due.is("its end", x.set(3, 2, 1), Due.PLACE);
        Due.is("ROWS", x.count(0), 1);
    }

    private static void rowAnswersN() {
        Due.says("Promise 2", "what is there: n.");
        HummingDisc x = new HummingDisc();
        for (int n = 0; n <= 40; n++) Due.is("row(0, 0, " + n + ")", x.row(0, 0, n), n);
    }

    private static void rowBadRow() {
        Due.says("Promise 2", "BAD: ROW,");
        HummingDisc x = new HummingDisc();
        for (int row : new int[] {-1, 8, Due.LEAST, Due.GREATEST}) Due.is("row " + row, x.row(row, 0, 1), Due.BAD);
        Due.is("ROWS", x.count(0), 0);
    }

    private static void rowBadLane() {
        Due.says("Promise 2", "BAD: ROW, LANE,");
        HummingDisc x = new HummingDisc();
        for (int lane : new int[] {-1, 3, Due.LEAST, Due.GREATEST}) Due.is("LANE " + lane, x.row(0, lane, 1), Due.BAD);
        Due.is("ROWS", x.count(0), 0);
    }

    private static void rowAboveForty() {
        Due.says("Promise 2", "n above 40;");
        HummingDisc x = new HummingDisc();
        Due.is("row(0, 0, 41)", x.row(0, 0, 41), Due.BAD);
        Due.is("row(0, 2, the greatest)", x.row(0, 2, Due.GREATEST), Due.BAD);
        Due.is("ROWS", x.count(0), 0);
    }

    private static void rowSize() {
        Due.says("Promise 2", "SIZE.");
        HummingDisc x = new HummingDisc();
        Due.is("row(0, 0, -1)", x.row(0, 0, -1), Due.SIZE);
        Due.is("row(0, 2, the least)", x.row(0, 2, Due.LEAST), Due.SIZE);
        Due.is("ROWS", x.count(0), 0);
    }

    private static void rowBadAheadOfSize() {
        Due.says("Promise 2", "BAD: ROW, LANE, n above 40; SIZE.");
        HummingDisc x = new HummingDisc();
        Due.is("row(8, 0, -1)", x.row(8, 0, -1), Due.BAD);
        Due.is("row(0, 3, -1)", x.row(0, 3, -1), Due.BAD);
    }

    private static void rowRefusedLeavesIt() {
        Due.says("Terms", "What is refused, or found, changes nothing but status().");
        HummingDisc x = new HummingDisc();
        Due.row(x, 0, 1, 5, 6, 7);
        x.row(0, 1, 41);
        x.row(0, 3, 2);
        x.row(0, 0, -1);
        for (int i = 0; i < 3; i++) Due.is("ITEM " + i, Due.item(x, 0, 1, i), 5 + i);
        Due.is("no more ITEMS", x.set(0, 3, 1), Due.PLACE);
    }

    // ---- promise 3

    private static void set() {
        itemBecomes();
        lowestBits();
        whatItIsThen();
        setBad();
        setNull();
        setPlace();
        setRefusedLeavesIt();
    }

    private static void itemBecomes() {
        Due.says("Promise 3", "ITEM i becomes v,");
        for (int lane = 0; lane < 3; lane++) {
            HummingDisc x = new HummingDisc();
            x.row(2, lane, 4);
            x.set(2, 0, 11);
            x.set(2, 3, 13);
            x.set(2, 0, 12);
            int[] due = {12, 0, 0, 13};
            for (int i = 0; i < 4; i++) Due.is("ITEM " + i + " of LANE " + lane, Due.item(x, 2, lane, i), due[i]);
        }
    }

    private static void lowestBits() {
        Due.says("Promise 3", "its lowest bits, as many as the LANE has (read with their sign):");
        HummingDisc x = new HummingDisc();
        for (int lane = 0; lane < 3; lane++) x.row(lane, lane, 1);
        int[][] bytes = {{127, 127}, {128, -128}, {255, -1}, {256, 0}, {-128, -128}, {-129, 127},
            {Due.GREATEST, -1}, {Due.LEAST, 0}};
        for (int[] d : bytes) Due.is("a byte of " + d[0], x.set(0, 0, d[0]), d[1]);
        int[][] shorts = {{32767, 32767}, {32768, -32768}, {65535, -1}, {65536, 0}, {-32768, -32768}, {-32769, 32767},
            {Due.GREATEST, -1}, {Due.LEAST, 0}};
        for (int[] d : shorts) Due.is("a short of " + d[0], x.set(1, 0, d[0]), d[1]);
        for (int v : new int[] {-1, 65536, Due.GREATEST, Due.LEAST}) Due.is("an int of " + v, x.set(2, 0, v), v);
    }

    private static void whatItIsThen() {
        Due.says("Promise 3", "(read with their sign): what it is then.");
        HummingDisc x = new HummingDisc();
        x.row(0, 0, 1);
        Due.is("set(0, 0, 261)", x.set(0, 0, 261), 5);
        Due.is("it is that", Due.item(x, 0, 0, 0), 5);
    }

    private static void setBad() {
        Due.says("Promise 3", "BAD: ROW;");
        HummingDisc x = new HummingDisc();
        for (int row : new int[] {-1, 8, Due.LEAST, Due.GREATEST}) {
            Due.is("set(" + row + ")", x.set(row, 0, 1), Due.BAD);
        }
    }

    private static void setNull() {
        Due.says("Promise 3", "NULL;");
        HummingDisc x = new HummingDisc();
        Due.is("set(7, 0, 1)", x.set(7, 0, 1), Due.NULL);
        Due.is("ahead of PLACE", x.set(7, -1, 1), Due.NULL);
        x.row(7, 0, 1);
        x.drop(7);
        Due.is("dropped", x.set(7, 0, 1), Due.NULL);
    }

    private static void setPlace() {
        Due.says("Promise 3", "PLACE.");
        HummingDisc x = new HummingDisc();
        x.row(0, 2, 3);
        for (int i : new int[] {-1, 3, Due.LEAST, Due.GREATEST}) {
            Due.is("set(0, " + i + ", 1)", x.set(0, i, 1), Due.PLACE);
        }
        Due.is("the last", x.set(0, 2, 1), 1);
        x.row(0, 2, 0);
        Due.is("none of none", x.set(0, 0, 1), Due.PLACE);
    }

    private static void setRefusedLeavesIt() {
        Due.says("Terms", "What is refused, or found, changes nothing but status().");
        HummingDisc x = new HummingDisc();
        Due.row(x, 0, 2, 5, 6);
        x.set(0, 2, 9);
        x.set(0, -1, 9);
        x.set(1, 0, 9);
        x.set(8, 0, 9);
        Due.is("ITEM 0", Due.item(x, 0, 2, 0), 5);
        Due.is("ITEM 1", Due.item(x, 0, 2, 1), 6);
        Due.is("ROWS, and 7 with it", x.count(0), 2);
    }

    // ---- promise 4

    private static void copy() {
        itemsCome();
        asTheyWereAhead();
        copyAnswersN();
        copyBad();
        copyNull();
        copyStore();
        copyBelowZero();
        copyBeyondAnEnd();
        copyInTime();
        copyRefusedLeavesIt();
    }

    private static void items(HummingDisc x, int row, int lane, int... due) {
        for (int i = 0; i < due.length; i++) Due.is("ITEM " + i, Due.item(x, row, lane, i), due[i]);
    }

    private static void itemsCome() {
        Due.says("Promise 4", "n ITEMS of a from i on come to b from j on,");
        for (int lane = 0; lane < 3; lane++) {
            HummingDisc x = new HummingDisc();
            Due.row(x, 0, lane, 1, 2, 3, 4, 5);
            Due.row(x, 1, lane, 11, 12, 13, 14);
            Due.is("copy(0, 3, 1, 1, 2)", x.copy(0, 3, 1, 1, 2), 2);
            items(x, 1, lane, 11, 4, 5, 14);
            items(x, 0, lane, 1, 2, 3, 4, 5);
        }
    }

    private static void asTheyWereAhead() {
        Due.says("Promise 4", "as they were ahead:");
        HummingDisc x = new HummingDisc();
        Due.row(x, 0, 1, 1, 2, 3, 4, 5);
        Due.is("upwards in one ROW", x.copy(0, 0, 0, 1, 4), 4);
        items(x, 0, 1, 1, 1, 2, 3, 4);
        Due.row(x, 0, 1, 1, 2, 3, 4, 5);
        Due.is("downwards in one ROW", x.copy(0, 2, 0, 0, 3), 3);
        items(x, 0, 1, 3, 4, 5, 4, 5);
    }

    private static void copyAnswersN() {
        Due.says("Promise 4", "as they were ahead: n.");
        HummingDisc x = new HummingDisc();
        x.row(0, 0, 40);
        x.row(1, 0, 40);
        x.row(2, 0, 0);
        Due.is("forty", x.copy(0, 0, 1, 0, 40), 40);
        Due.is("none", x.copy(0, 7, 1, 9, 0), 0);
        Due.is("none at the ends", x.copy(0, 40, 1, 40, 0), 0);
        Due.is("none of none", x.copy(2, 0, 2, 0, 0), 0);
        Due.is("upon itself", x.copy(0, 3, 0, 3, 5), 5);
    }

    private static void copyBad() {
        Due.says("Promise 4", "BAD: ROWS;");
        HummingDisc x = new HummingDisc();
        x.row(0, 0, 1);
        for (int row : new int[] {-1, 8, Due.LEAST, Due.GREATEST}) {
            Due.is("a of " + row, x.copy(row, 0, 0, 0, 1), Due.BAD);
            Due.is("b of " + row, x.copy(0, 0, row, 0, 1), Due.BAD);
        }
    }

    private static void copyNull() {
        Due.says("Promise 4", "NULL;");
        for (int lane = 0; lane < 3; lane++) {
            HummingDisc x = new HummingDisc();
            x.row(0, lane, 1);
            Due.is("a is missing", x.copy(1, 0, 0, 0, 1), Due.NULL);
            Due.is("b is missing", x.copy(0, 0, 1, 0, 1), Due.NULL);
            Due.is("both are", x.copy(1, 0, 2, 0, 0), Due.NULL);
            x.row(1, 1, 1);
            x.drop(1);
            Due.is("a was dropped", x.copy(1, 0, 0, 0, 1), Due.NULL);
            Due.is("b was dropped", x.copy(0, 0, 1, 0, 1), Due.NULL);
        }
    }

    private static void copyStore() {
        Due.says("Promise 4", "STORE;");
        for (int a = 0; a < 3; a++) {
            for (int b = 0; b < 3; b++) {
                HummingDisc x = new HummingDisc();
                x.row(0, a, 1);
                x.row(1, b, 1);
                Due.is("LANE " + a + " to " + b, x.copy(0, 0, 1, 0, 1), a == b ? 1 : Due.STORE);
                Due.is("none of LANE " + a + " to " + b, x.copy(0, 0, 1, 0, 0), a == b ? 0 : Due.STORE);
            }
        }
    }

    private static void copyBelowZero() {
        Due.says("Promise 4", "PLACE (i, j, n below 0,");
        HummingDisc x = new HummingDisc();
        x.row(0, 0, 5);
        for (int below : new int[] {-1, -40, Due.LEAST}) {
            Due.is("i of " + below, x.copy(0, below, 0, 0, 1), Due.PLACE);
            Due.is("j of " + below, x.copy(0, 0, 0, below, 1), Due.PLACE);
            Due.is("n of " + below, x.copy(0, 2, 0, 2, below), Due.PLACE);
            Due.is("i of " + below + ", none", x.copy(0, below, 0, 0, 0), Due.PLACE);
            Due.is("j of " + below + ", none", x.copy(0, 0, 0, below, 0), Due.PLACE);
        }
    }

    private static void copyBeyondAnEnd() {
        Due.says("Promise 4", "or beyond an end).");
        HummingDisc x = new HummingDisc();
        x.row(0, 0, 5);
        x.row(1, 0, 3);
        Due.is("a's", x.copy(0, 3, 1, 0, 3), Due.PLACE);
        Due.is("just a's", x.copy(0, 3, 1, 0, 2), 2);
        Due.is("b's", x.copy(0, 0, 1, 1, 3), Due.PLACE);
        Due.is("just b's", x.copy(0, 0, 1, 1, 2), 2);
        Due.is("none beyond a's", x.copy(0, 6, 1, 0, 0), Due.PLACE);
        Due.is("none beyond b's", x.copy(0, 0, 1, 4, 0), Due.PLACE);
        Due.is("i and n do not wrap", x.copy(0, 1, 1, 0, Due.GREATEST), Due.PLACE);
        Due.is("i the greatest", x.copy(0, Due.GREATEST, 1, 0, 1), Due.PLACE);
        Due.is("j the greatest", x.copy(0, 0, 1, Due.GREATEST, 1), Due.PLACE);
    }

    private static void copyInTime() {
        Due.says("Promise 4", "BAD: ROWS; NULL; STORE; PLACE (i, j, n below 0, or beyond an end).");
        HummingDisc x = new HummingDisc();
        x.row(0, 0, 1);
        x.row(1, 1, 1);
        Due.is("BAD ahead of NULL", x.copy(2, 0, 8, 0, 1), Due.BAD);
        Due.is("NULL ahead of PLACE", x.copy(0, -1, 2, 0, 1), Due.NULL);
        Due.is("STORE ahead of PLACE", x.copy(0, -1, 1, 0, 1), Due.STORE);
    }

    private static void copyRefusedLeavesIt() {
        Due.says("Terms", "What is refused, or found, changes nothing but status().");
        HummingDisc x = new HummingDisc();
        Due.row(x, 0, 0, 1, 2, 3);
        Due.row(x, 1, 0, 4, 5);
        Due.row(x, 2, 1, 6);
        x.copy(0, 0, 1, 0, 3);
        x.copy(0, 2, 1, 0, 2);
        x.copy(0, 0, 2, 0, 1);
        x.copy(0, 0, 1, -1, 2);
        items(x, 1, 0, 4, 5);
        items(x, 2, 1, 6);
    }

    // ---- promise 5

    private static void drop() {
        missingFromNowOn();
        howManyItHad();
        dropBad();
        dropNull();
    }

    private static void missingFromNowOn() {
        Due.says("Promise 5", "A ROW is missing from now on:");
        HummingDisc x = new HummingDisc();
        x.row(4, 0, 2);
        x.row(5, 0, 2);
        x.drop(4);
        Due.is("set(4, 0, 1)", x.set(4, 0, 1), Due.NULL);
        Due.is("copy(4, 0, 5, 0, 1)", x.copy(4, 0, 5, 0, 1), Due.NULL);
        Due.is("copy(5, 0, 4, 0, 1)", x.copy(5, 0, 4, 0, 1), Due.NULL);
        Due.is("ROWS", x.count(0), 1);
        Due.is("the other is not", x.set(5, 0, 1), 1);
        Due.is("until it is made anew", x.row(4, 0, 1), 1);
        Due.is("ROWS", x.count(0), 2);
    }

    private static void howManyItHad() {
        Due.says("Promise 5", "how many ITEMS it had.");
        HummingDisc x = new HummingDisc();
        for (int n : new int[] {0, 1, 17, 40}) {
            x.row(4, 0, n);
            Due.is("drop(4) of " + n, x.drop(4), n);
        }
    }

    private static void dropBad() {
        Due.says("Promise 5", "BAD;");
        HummingDisc x = new HummingDisc();
        for (int row : new int[] {-1, 8, Due.LEAST, Due.GREATEST}) Due.is("drop(" + row + ")", x.drop(row), Due.BAD);
    }

    private static void dropNull() {
        Due.says("Promise 5", "NULL.");
        HummingDisc x = new HummingDisc();
        x.row(0, 0, 3);
        Due.is("never made", x.drop(1), Due.NULL);
        x.drop(0);
        Due.is("dropped", x.drop(0), Due.NULL);
    }
}
