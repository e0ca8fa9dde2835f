/** Promises 26 to 30: kind, as, ask, trace, count. */
public final class AskedTest {
    // Beyond 10, TWIST, each SLOPE is 1, else 0: by WEIGHT 10 the first F gives the pace that stays.
    private static final String BOX = "disc 10 0 1; thread 1 10 20 5; hand;";

    public static void main(String[] args) {
        withoutRun();
        unwinding();
        winding();
        over();
        dead();
        snapped();
        wrongOnes();
        count();
        Due.end();
    }

    /** From t0 by one pull, then without, until so many TICKS went. */
    private static HummingDisc after(int t0, int f, int ticks) {
        HummingDisc x = Due.of(BOX);
        x.begin(0, 0, 0, t0);
        Due.row(x, 0, 0, f);
        x.pulls(0, 0, 1);
        if (ticks > 1) x.go(ticks - 1);
        Due.is("TICKS", x.now(2), ticks);
        return x;
    }

    private static void isTold(HummingDisc x, int kind, int... also) {
        Due.is("kind()", x.kind(), kind);
        for (int k = 0; k <= 5; k++) {
            boolean is = k == 0 || k == kind;
            for (int a : also) is |= a == k;
            Due.is("as(" + k + ") of one told as " + kind, x.as(k), is ? x.now(2) : Due.KIND);
            Due.is("status()", x.status(), is ? 0 : 3);
        }
    }

    private static void asked(HummingDisc x, int what, int want, int... trace) {
        Due.is("ask(" + what + ") of one told as " + x.kind(), x.ask(what), want);
        Due.are("its trace", Due.trace(x), trace);
    }

    private static void withoutRun() {
        HummingDisc x = Due.of(BOX);
        Due.is("kind()", x.kind(), Due.STATE);
        Due.is("as(0)", x.as(0), Due.STATE);
        Due.is("as(6), ahead of BAD", x.as(6), Due.STATE);
        Due.is("ask(0)", x.ask(0), Due.STATE);
        Due.is("ask(2), ahead of BAD", x.ask(2), Due.STATE);
    }

    private static void unwinding() {
        HummingDisc x = after(15, 3, 1);
        isTold(x, 1);
        asked(x, 0, 16, 11, 10, 21, 20);
        asked(x, 1, 4, 21, 20);
        x = after(13, 3, 4);
        Due.is("next to 0", x.now(0), 1);
        isTold(x, 1);
        asked(x, 0, 8, 11, 10, 21, 20);
        x = after(-13, 3, 4);
        Due.is("next to 0 the other way", x.now(0), -1);
        isTold(x, 1);
        x = after(-15, 3, 2);
        isTold(x, 1);
        asked(x, 0, 14, 11, 10, 21, 20);
        asked(x, 1, 5, 21, 20);
    }

    private static void winding() {
        HummingDisc x = after(15, 3, 5);
        Due.is("at 0", x.now(0), 0);
        isTold(x, 2);
        asked(x, 0, -5, 12, 10, 20);
        asked(x, 1, 5, 20);
        x = after(-15, 3, 5);
        Due.is("at 0 the other way", x.now(0), 0);
        isTold(x, 2);
        x = after(-13, 3, 5);
        Due.is("behind 0", x.now(0), 2);
        isTold(x, 2);
        x = after(14, 4, 6);
        Due.is("at TWIST", x.now(0), -10);
        isTold(x, 2);
        asked(x, 0, 4, 12, 10, 20);
    }

    private static void over() {
        HummingDisc x = after(15, 3, 9);
        Due.is("beyond TWIST", x.now(0), -12);
        isTold(x, 4, 2);
        asked(x, 0, -1994, 13, 12, 10, 22, 20);
        asked(x, 1, 1009, 22, 20);
        x = after(-11, 1, 22);
        Due.is("just beyond TWIST", x.now(0), 11);
        isTold(x, 4, 2);
        asked(x, 0, -2022, 13, 12, 10, 22, 20);
    }

    private static void dead() {
        HummingDisc x = after(15, 3, 12);
        Due.is("at MOST", x.now(0), -20);
        isTold(x, 3);
        asked(x, 0, -20, 14, 10);
        asked(x, 1, -8, 23, 20, 14, 10);
        x.begin(0, 0, 0, 0);
        isTold(x, 3);
        asked(x, 0, 0, 14, 10);
        x.begin(0, 0, 0, 15);
        isTold(x, 3);
    }

    private static void snapped() {
        HummingDisc x = after(15, 6, 6);
        Due.is("SNAPPED", x.now(3), 1);
        isTold(x, 5, 3);
        asked(x, 0, -20, 14, 10);
        asked(x, 1, 14, 24, 23, 20, 14, 10);
    }

    private static void wrongOnes() {
        HummingDisc x = after(15, 3, 1);
        x.ask(1);
        Due.is("as(-1)", x.as(-1), Due.BAD);
        Due.is("as(6)", x.as(6), Due.BAD);
        Due.is("ask(2)", x.ask(2), Due.BAD);
        Due.is("ask(-1)", x.ask(-1), Due.BAD);
        Due.are("refused, THE TRACE stays", Due.trace(x), 21, 20);
        Due.is("trace(-1)", x.trace(-1), Due.NONE);
        Due.is("trace(2)", x.trace(2), Due.NONE);
        Due.is("trace(16)", x.trace(16), Due.NONE);
        Due.is("trace of the greatest int", x.trace(Integer.MAX_VALUE), Due.NONE);
        Due.is("a new BOX", Due.read(x, BOX), 1);
        Due.is("ask(0) without a RUN", x.ask(0), Due.STATE);
        Due.are("THE TRACE stays", Due.trace(x), 21, 20);
        Due.is("kind()", x.kind(), Due.STATE);
    }

    private static void count() {
        HummingDisc x = Due.of("disc 1 1 1; disc 1 1 1; thread 1 1 1 1; thread 1 1 1 1; thread 1 1 1 1;"
            + "hand; when pace below 1 pull 1; hand; hand; hand; when pace below 1 pull 1; when pace above 1 pull 1;");
        x.row(2, 0, 0);
        x.feed(0, 7);
        int[] due = {1, 2, 3, 4, 3, 7};
        for (int what = 0; what <= 5; what++) Due.is("count(" + what + ")", x.count(what), due[what]);
        Due.is("count(-1)", x.count(-1), Due.BAD);
        Due.is("count(6)", x.count(6), Due.BAD);
    }
}
