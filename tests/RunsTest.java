/** Promises 10 to 13: begin, go, pulls, now. */
public final class RunsTest {
    // On these threads SHORT of w is w less 1, so that a disc of WEIGHT 10 gets F more pace a TICK.
    private static final String DISCS = "disc 10 0 3; disc 1 99 1; disc 30 0 1;";
    private static final String THREADS = "thread 1 1 20 999; thread 1 1 20 5; thread 99 400 800 999;";
    private static final String HANDS = "hand; when tick above -1 pull 2; hand;";

    public static void main(String[] args) {
        begin();
        go();
        through();
        mostAndSnap();
        airAndWeight();
        rules();
        give();
        pulls();
        now();
        Due.end();
    }

    private static HummingDisc box() {
        return Due.of(DISCS + THREADS + HANDS);
    }

    private static void begin() {
        HummingDisc x = box();
        Due.is("a DISC too many", x.begin(3, 0, 0, 1), Due.BAD);
        Due.is("a THREAD too many", x.begin(0, 3, 0, 1), Due.BAD);
        Due.is("a HAND too many", x.begin(0, 0, 2, 1), Due.BAD);
        Due.is("DISC -1", x.begin(-1, 0, 0, 1), Due.BAD);
        Due.is("THREAD -1", x.begin(0, -1, 0, 1), Due.BAD);
        Due.is("HAND -1", x.begin(0, 0, -1, 1), Due.BAD);
        Due.is("beyond MOST", x.begin(0, 0, 0, 21), Due.BAD);
        Due.is("beyond MOST the other way", x.begin(0, 0, 0, -21), Due.BAD);
        Due.is("the least int", x.begin(0, 0, 0, Integer.MIN_VALUE), Due.BAD);
        Due.is("no RUN began", x.now(0), Due.STATE);
        Due.is("at MOST", x.begin(0, 0, 0, 20), 1);
        Due.are("now() of a new RUN", Due.now(x), 20, 0, 0, 0, 19, Due.NONE, 0, 0, 0);
        Due.is("at MOST the other way", x.begin(0, 0, 0, -20), 1);
        Due.is("go(5)", x.go(5), 5);
        Due.is("begin() that is BAD", x.begin(0, 0, 0, 99), Due.BAD);
        Due.is("leaves the RUN", x.now(2), 5);
        Due.is("begin() anew", x.begin(0, 0, 1, -3), 1);
        Due.are("now() of it", Due.now(x), -3, 0, 0, 0, 2, Due.NONE, 0, 0, 0);
    }

    private static void go() {
        HummingDisc x = box();
        Due.is("go(1) without a RUN", x.go(1), Due.STATE);
        Due.is("go(0), ahead of STATE", x.go(0), Due.BAD);
        Due.is("go(201), ahead of STATE", x.go(201), Due.BAD);
        x.begin(0, 0, 0, 10);
        Due.is("go(1)", x.go(1), 1);
        Due.are("behind 1", Due.now(x), 8, -2, 1, 0, 7, 2, 2, 6, 0);
        Due.is("go(2)", x.go(2), 2);
        Due.are("behind 3", Due.now(x), -2, -6, 3, 0, 1, 2, 6, 18, 1);
        Due.is("go(3)", x.go(3), 3);
        Due.are("behind 6", Due.now(x), -8, 0, 6, 0, 7, 2, 6, 0, 1);
        Due.is("go(1)", x.go(1), 1);
        Due.are("behind 7", Due.now(x), -6, 2, 7, 0, 5, 2, 6, 6, 1);
        Due.is("go(200)", x.go(200), 200);
        Due.is("TICKS", x.now(2), 207);
        Due.is("go(201)", x.go(201), Due.BAD);
        Due.is("go(-1)", x.go(-1), Due.BAD);
        Due.is("TICKS", x.now(2), 207);
        x.begin(0, 0, 1, 10);
        Due.is("by a HAND without rules", x.go(3), 3);
        Due.are("nothing moves", Due.now(x), 10, 0, 3, 0, 9, 0, 0, 0, 0);
        x.begin(0, 0, 0, 1);
        x.go(9);
        Due.are("where the SLOPE is 0", Due.now(x), 1, 0, 9, 0, 0, 2, 0, 0, 0);
    }

    private static void through() {
        HummingDisc x = box();
        x.begin(0, 0, 0, 6);
        Due.is("go(2)", x.go(2), 2);
        Due.are("t became 0", Due.now(x), 0, -4, 2, 0, 0, 2, 4, 12, 1);
        Due.is("go(1)", x.go(1), 1);
        Due.are("on from 0 is not once more", Due.now(x), -4, -4, 3, 0, 3, 2, 4, 12, 1);
        x.begin(0, 0, 0, 0);
        x.go(5);
        Due.are("from 0", Due.now(x), 0, 0, 5, 0, 0, 2, 0, 0, 0);
        x.begin(0, 0, 0, -10);
        x.go(3);
        Due.are("the other way", Due.now(x), 2, 6, 3, 0, 1, 2, 6, 18, 1);
    }

    private static void mostAndSnap() {
        HummingDisc x = box();
        Due.row(x, 0, 0, 40, 0, 5, 6);
        Due.row(x, 1, 0, 0, 0, 0, 0, 0, 0, 0, 0, 0, 0);
        x.begin(0, 0, 1, 20);
        x.pulls(0, 0, 1);
        Due.are("at MOST, not beyond", Due.now(x), -20, -40, 1, 0, 19, 40, 40, 120, 1);
        x.pulls(0, 1, 1);
        Due.are("beyond MOST", Due.now(x), -20, 0, 2, 0, 19, 0, 40, 0, 1);
        x.begin(0, 1, 1, 20);
        x.pulls(0, 2, 1);
        Due.is("by SNAP", x.pulls(1, 0, 8), 8);
        Due.are("by SNAP it holds", Due.now(x), -20, 0, 9, 0, 19, 0, 5, 0, 1);
        x.begin(0, 1, 1, -20);
        x.pulls(0, 3, 1);
        Due.is("by more than SNAP", x.pulls(1, 0, 10), 6);
        Due.are("it is SNAPPED", Due.now(x), 20, 0, 7, 1, 19, 0, 6, 0, 1);
        Due.is("nothing goes on", x.go(9), 0);
        Due.is("nothing goes on by told F", x.pulls(1, 0, 1), 0);
        Due.are("all stays", Due.now(x), 20, 0, 7, 1, 19, 0, 6, 0, 1);
        Due.is("a new RUN", x.begin(0, 1, 1, 20), 1);
        Due.is("is not SNAPPED", x.now(3), 0);
    }

    private static void airAndWeight() {
        HummingDisc x = box();
        Due.row(x, 0, 0, 14, 99, 5, 6, 2);
        x.begin(1, 0, 1, 20);
        x.pulls(0, 0, 1);
        // 140 times 140 by 1000 is 19, times 99 by 100 is 18.
        Due.are("the air cuts twice", Due.now(x), -20, 0, 1, 0, 19, 14, 122, 0, 1);
        x.begin(1, 0, 1, 20);
        x.pulls(0, 1, 1);
        // 990 times 990 by 1000 is 980, times 99 by 100 is 970.
        Due.are("of a great pace little is left", Due.now(x), 0, -20, 1, 0, 0, 99, 20, 20, 1);
        x.begin(1, 2, 1, 800);
        x.pulls(0, 1, 1);
        Due.are("the air takes all, and nothing wraps", Due.now(x), 800, 0, 1, 0, 80240, 99, 0, 0, 0);
        x.begin(2, 0, 1, 20);
        x.pulls(0, 4, 1);
        Due.is("20 by 30", x.now(1), 0);
        x.pulls(0, 2, 1);
        Due.is("50 by 30", x.now(1), -1);
        x.pulls(0, 3, 1);
        Due.is("60 by 30 more", x.now(1), -3);
    }

    /** The F of the first TICK from t0. */
    private static int firstPull(HummingDisc x, int hand, int t0) {
        x.begin(0, 0, hand, t0);
        x.go(1);
        return x.now(5);
    }

    private static void rules() {
        HummingDisc x = Due.of(DISCS + THREADS
            + "hand; when wound above 10 pull 7; when wound below 5 pull 3; when wound above 8 pull 4;"
            + "hand; when pace below 1 pull 2; when pace above 2 pull 1;"
            + "hand; when tick below 2 pull 4; when tick above 3 pull 5;");
        int[] due = {3, 3, 3, 3, 3, 0, 0, 0, 0, 4, 4, 7, 7};
        for (int t0 = 0; t0 < due.length; t0++) {
            Due.is("F from " + t0, firstPull(x, 0, t0), due[t0]);
            Due.is("F from -" + t0, firstPull(x, 0, -t0), due[t0]);
        }
        x.begin(0, 0, 1, 20);
        Due.are("by pace", pullsOf(x, 4), 2, 0, 0, 0);
        x.begin(0, 0, 1, -20);
        Due.row(x, 0, 0, 3, 0);
        x.pulls(0, 0, 1);
        Due.are("by a greater pace", pullsOf(x, 2), 1, 1);
        x.begin(0, 0, 2, 20);
        Due.are("by tick", pullsOf(x, 6), 4, 4, 0, 0, 5, 5);
    }

    private static int[] pullsOf(HummingDisc x, int n) {
        int[] all = new int[n];
        for (int i = 0; i < n; i++) {
            x.go(1);
            all[i] = x.now(5);
        }
        return all;
    }

    private static void give() {
        HummingDisc x = Due.of(DISCS + THREADS
            + "hand; when give below 0 pull 9; when give above 0 pull 8; when give below 1 pull 2;"
            + "hand; when give below -2 pull 9; when give above -2 pull 1;");
        x.begin(0, 0, 0, 20);
        Due.are("0 at first, then less", pullsOf(x, 2), 2, 9);
        x.begin(0, 0, 0, 20);
        Due.row(x, 0, 0, 2, 0, 11, 0);
        x.pulls(0, 0, 1);
        x.image(0);
        Due.are("behind a told F", pullsOf(x, 1), 9);
        x.restore(0);
        Due.are("behind a restored one", pullsOf(x, 1), 9);
        x.begin(0, 0, 1, 20);
        x.pulls(0, 0, 1);
        Due.are("just by -2", pullsOf(x, 1), 0);
        x.begin(0, 0, 0, 10);
        x.pulls(0, 2, 1);
        x.pulls(0, 3, 1);
        Due.are("it grows shorter again", pullsOf(x, 1), 8);
    }

    private static void pulls() {
        HummingDisc x = box();
        Due.is("no RUN, ahead of NULL", x.pulls(0, 0, 1), Due.STATE);
        Due.is("n of 0, ahead of STATE", x.pulls(0, 0, 0), Due.BAD);
        Due.is("n of 41, ahead of STATE", x.pulls(0, 0, 41), Due.BAD);
        Due.is("no such ROW, ahead of STATE", x.pulls(8, 0, 1), Due.BAD);
        x.begin(0, 0, 0, 20);
        Due.is("a missing ROW", x.pulls(0, -1, 1), Due.NULL);
        Due.row(x, 0, 2, 1, 99, 100, 0, -1);
        Due.is("beyond the end", x.pulls(0, 4, 2), Due.PLACE);
        Due.is("i below 0", x.pulls(0, -1, 2), Due.PLACE);
        Due.is("i far beyond", x.pulls(0, Integer.MAX_VALUE, 2), Due.PLACE);
        Due.is("PLACE ahead of a bad ITEM", x.pulls(0, 2, 4), Due.PLACE);
        Due.is("an ITEM of 100", x.pulls(0, 0, 3), Due.BAD);
        Due.is("an ITEM of -1", x.pulls(0, 3, 2), Due.BAD);
        Due.are("nothing went", Due.now(x), 20, 0, 0, 0, 19, Due.NONE, 0, 0, 0);
        Due.is("two", x.pulls(0, 0, 2), 2);
        Due.are("they went", Due.now(x), -20, 0, 2, 0, 19, 99, 100, 0, 1);
        Due.is("one from the midst", x.pulls(0, 3, 1), 1);
        Due.is("its F", x.now(5), 0);
        int[] many = new int[40];
        Due.row(x, 1, 0, many);
        Due.is("forty", x.pulls(1, 0, 40), 40);
        Due.is("TICKS", x.now(2), 43);
    }

    private static void now() {
        HummingDisc x = box();
        Due.is("now(0) without a RUN", x.now(0), Due.STATE);
        Due.is("now(-1)", x.now(-1), Due.BAD);
        Due.is("now(9)", x.now(9), Due.BAD);
        x.begin(0, 0, 0, 5);
        Due.is("now(9) of a RUN", x.now(9), Due.BAD);
        Due.is("now(-1) of a RUN", x.now(-1), Due.BAD);
    }
}
