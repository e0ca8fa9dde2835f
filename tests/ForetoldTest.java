/** Promises 14 to 20: greatest, best, from, late, parts, lamp, wobble. */
public final class ForetoldTest {
    // On these threads SHORT of w is w less 1, so that a disc of WEIGHT 10 gets F more pace a TICK.
    private static final String BOX = "disc 10 0 1; disc 5 0 1; disc 10 0 1;"
        + "thread 1 1 800 999; thread 1 1 10 5; thread 1 1 10 999; thread 1 1 20 999; hand;";

    public static void main(String[] args) {
        greatest();
        best();
        from();
        late();
        parts();
        lamp();
        wobble();
        wrongOnes();
        Due.end();
    }

    private static void greatest() {
        HummingDisc x = Due.of(BOX);
        x.begin(0, 0, 0, 7);
        x.go(2);
        // From 10 by 2: to 8, 4, -2 with a pace of 2, 4, 6; then on without a pull.
        Due.is("of 1 TICK", x.greatest(0, 0, 10, 2, 1, 0), 2);
        Due.is("of 2", x.greatest(0, 0, 10, 2, 2, 0), 4);
        Due.is("of 3", x.greatest(0, 0, 10, 2, 3, 0), 6);
        Due.is("of 100", x.greatest(0, 0, 10, 2, 100, 0), 6);
        Due.is("it does not SNAP", x.greatest(0, 0, 10, 2, 300, 1), 0);
        Due.is("not by 4 TICKS", x.greatest(0, 1, 10, 2, 4, 1), 0);
        Due.is("by 5 it SNAPS", x.greatest(0, 1, 10, 2, 5, 1), 1);
        Due.is("none behind it", x.greatest(0, 1, 10, 2, 300, 0), 6);
        Due.is("the SNAPPED one, too", x.greatest(0, 1, 10, 60, 1, 0), 60);
        Due.is("at MOST it is pulled anew", x.greatest(0, 2, 10, 2, 300, 0), 6);
        Due.is("by no F", x.greatest(0, 0, 10, 0, 300, 0), 0);
        Due.are("what is stays", Due.now(x), 7, 0, 2, 0, 6, 0, 0, 0, 0);
    }

    private static void best() {
        HummingDisc x = new HummingDisc();
        Due.is("no BOX, ahead of BAD", x.best(0, -1, 0), Due.STATE);
        x = Due.of(BOX);
        // The second disc gets twice the pace: 4, 8 to -2 from 10.
        Due.is("the least THREAD of several", x.best(10, 2, 300), 8);
        Due.is("the least of DISC and THREAD", x.best(10, 0, 300), 0);
        Due.is("each from its MOST at most", x.best(20, 2, 300), 8);
        Due.is("from t0, if that is less: nothing moves", x.best(1, 2, 300), 0);
        Due.is("best(0, 1, 1)", x.best(0, 1, 1), Due.BAD);
        Due.is("best(801, 1, 1)", x.best(801, 1, 1), Due.BAD);
        Due.is("best(1, -1, 1)", x.best(1, -1, 1), Due.BAD);
        Due.is("best(1, 100, 1)", x.best(1, 100, 1), Due.BAD);
        Due.is("best(1, 1, 0)", x.best(1, 1, 0), Due.BAD);
        Due.is("best(1, 1, 301)", x.best(1, 1, 301), Due.BAD);
        Due.is("best(800, 99, 300)", x.best(800, 99, 1), 8);
        x = Due.of("disc 10 0 1; thread 1 1 10 5; hand;");
        Due.is("all SNAP", x.best(10, 2, 300), Due.NONE);
        x = Due.of("disc 10 0 1; disc 5 0 1; thread 1 1 10 5; thread 1 1 10 6; hand;");
        Due.is("one that does not SNAP", x.best(800, 2, 300), 1);
    }

    private static void from() {
        HummingDisc x = Due.of(BOX);
        Due.is("pulled at 10, 8, 4", x.from(0, 0, 10, 2, 100), 4);
        Due.is("SNAPPED by w to 4, then 10 and 8", x.from(0, 1, 10, 2, 100), 8);
        Due.is("within 2 TICKS", x.from(0, 0, 10, 2, 2), 8);
        Due.is("within 1 TICK", x.from(0, 0, 10, 2, 1), 10);
        Due.is("by no F: the greatest of all", x.from(0, 0, 10, 0, 100), 10);
        Due.is("SNAPPED by all", x.from(0, 1, 10, 6, 300), Due.NONE);
        // Up to 10 the SLOPE is 0: pulled at 15 and 12, it is not moved at 6.
        x = Due.of("disc 10 0 1; thread 1 10 800 999; hand;");
        Due.is("of several the greatest", x.from(0, 0, 15, 3, 100), 12);
    }

    private static void late() {
        HummingDisc x = Due.of(BOX);
        Due.is("in 4 TICKS: -8", x.late(0, 3, 10, 2, 4), Due.NONE);
        Due.is("in 5 TICKS: -14", x.late(0, 3, 10, 2, 5), 0);
        Due.is("a TICK late", x.late(0, 3, 10, 2, 6), 1);
        Due.is("29 late", x.late(0, 3, 10, 2, 34), 29);
        Due.is("30 late", x.late(0, 3, 10, 2, 35), 30);
        Due.is("30 at most", x.late(0, 3, 10, 2, 300), 30);
        Due.is("it stays at t0", x.late(0, 3, 10, 0, 300), Due.NONE);
        Due.is("at MOST in 5 TICKS, from MOST", x.late(0, 2, 10, 2, 5), 0);
        Due.is("in 4 it is nearer", x.late(0, 2, 10, 2, 4), Due.NONE);
        Due.is("SNAPPED at MOST", x.late(0, 1, 10, 2, 5), 0);
        Due.is("over to MOST in one TICK is not nearer ahead", x.late(0, 2, 10, 20, 1), Due.NONE);
        Due.is("nor SNAPPED", x.late(0, 1, 10, 30, 300), Due.NONE);
    }

    private static void parts() {
        HummingDisc x = Due.of(BOX);
        // The squares, added: 4, 20, 56, 92, 128 ..
        Due.is("10", x.parts(0, 0, 10, 2, 1), 2);
        Due.is("20", x.parts(0, 0, 10, 2, 2), 2);
        Due.is("30", x.parts(0, 0, 10, 2, 3), 3);
        Due.is("60", x.parts(0, 0, 10, 2, 6), 4);
        Due.is("by 500 TICKS never", x.parts(0, 0, 10, 2, 999999), Due.NONE);
        Due.is("SNAPPED in the 5th TICK, it too: 120", x.parts(0, 1, 10, 2, 12), 5);
        Due.is("none behind: 130", x.parts(0, 1, 10, 2, 13), Due.NONE);
        Due.is("by no F", x.parts(0, 0, 10, 0, 1), Due.NONE);
        x = Due.of("disc 1 0 1; disc 999 0 1; thread 99 400 800 1; thread 1 1 800 1; hand;");
        Due.is("159390 by itself, and nothing wraps", x.parts(0, 0, 800, 99, 999999), 1);
        Due.is("no pace by 990 by 999", x.parts(1, 1, 600, 99, 1), Due.NONE);
        // SLOPES: 0 or 1 up to 400, which do not move it, and 3 beyond: from 401 a pace of 1, from 402 one of 1, then 2.
        x = Due.of("disc 21 0 1; thread 1 400 800 999; hand;");
        Due.is("500 by the 500th TICK", x.parts(0, 0, 401, 1, 50), 500);
        Due.is("501 by none", x.parts(0, 0, 401, 1, 51), Due.NONE);
        Due.is("1993 by the 499th", x.parts(0, 0, 402, 1, 199), 499);
        Due.is("1997 by the 500th, 2001 by none", x.parts(0, 0, 402, 1, 200), Due.NONE);
    }

    private static void lamp() {
        HummingDisc x = Due.of(BOX);
        // With 0: through 0 in the TICKS 3, 8, 13; with 1: in 4, 11, 16; with 2 it never moves.
        Due.is("in 300", x.lamp(0, 2, 10, 2, 300), 1);
        Due.is("in 16", x.lamp(0, 2, 10, 2, 16), 1);
        Due.is("in 15", x.lamp(0, 2, 10, 2, 15), 0);
        Due.is("in 13", x.lamp(0, 2, 10, 2, 13), 0);
        Due.is("in 12", x.lamp(0, 2, 10, 2, 12), Due.NONE);
        // By 6: with 5 it comes to rest at 0; with 4 it goes to 8, 4, -2, -4, -4, -2, 2, 2, 0.
        Due.is("in 9", x.lamp(0, 1, 10, 6, 9), 4);
        Due.is("SNAPPED too soon by none", x.lamp(0, 1, 10, 6, 300), 4);
        Due.is("SNAPPED by the first", x.lamp(0, 1, 10, 99, 300), Due.NONE);
        Due.is("50 at most", x.lamp(1, 2, 10, 99, 300), 50);
    }

    private static void wobble() {
        HummingDisc x = Due.of("disc 10 0 1; disc 999 0 1; disc 1 0 1; thread 1 1 1 1; hand;");
        Due.is("1089 by 100 is 10", x.wobble(0, 1), 33);
        Due.is("50 times 16 by 100 is 8", x.wobble(0, 50), 4);
        Due.is("99856 by 100 is 998", x.wobble(1, 1), 316);
        Due.is("50 times 44 times 44 by 100 is 968", x.wobble(1, 50), 44);
        Due.is("50 times 1 by 100 is 0", x.wobble(2, 50), 1);
        Due.is("wobble(0, 0)", x.wobble(0, 0), Due.BAD);
        Due.is("wobble(0, 51)", x.wobble(0, 51), Due.BAD);
        Due.is("wobble(3, 1)", x.wobble(3, 1), Due.BAD);
        Due.is("wobble(-1, 1)", x.wobble(-1, 1), Due.BAD);
    }

    private static void wrongOnes() {
        HummingDisc x = Due.of(BOX);
        int[][] wrong = {
            {3, 0, 1, 1, 1}, {-1, 0, 1, 1, 1}, {0, 4, 1, 1, 1}, {0, -1, 1, 1, 1}, {0, 1, 0, 1, 1}, {0, 1, -1, 1, 1},
            {0, 1, 11, 1, 1}, {0, 0, 801, 1, 1}, {0, 1, 1, -1, 1}, {0, 1, 1, 100, 1}, {0, 1, 1, 1, 0},
        };
        for (int[] w : wrong) allAreBad(x, w);
        allAreBad(new HummingDisc(), new int[] {0, 0, 1, 1, 1});
        Due.is("greatest() of 301", x.greatest(0, 1, 1, 1, 301, 0), Due.BAD);
        Due.is("from() of 301", x.from(0, 1, 1, 1, 301), Due.BAD);
        Due.is("late() of 301", x.late(0, 1, 1, 1, 301), Due.BAD);
        Due.is("lamp() of 301", x.lamp(0, 1, 1, 1, 301), Due.BAD);
        Due.is("parts() of 1000000", x.parts(0, 1, 1, 1, 1000000), Due.BAD);
        Due.is("greatest() by 2", x.greatest(0, 1, 1, 1, 1, 2), Due.BAD);
        Due.is("greatest() by -1", x.greatest(0, 1, 1, 1, 1, -1), Due.BAD);
        Due.is("all at their most", x.greatest(2, 3, 20, 99, 300, 1), 0);
    }

    private static void allAreBad(HummingDisc x, int[] w) {
        Due.is("greatest()", x.greatest(w[0], w[1], w[2], w[3], w[4], 0), Due.BAD);
        Due.is("from()", x.from(w[0], w[1], w[2], w[3], w[4]), Due.BAD);
        Due.is("late()", x.late(w[0], w[1], w[2], w[3], w[4]), Due.BAD);
        Due.is("parts()", x.parts(w[0], w[1], w[2], w[3], w[4]), Due.BAD);
        Due.is("lamp()", x.lamp(w[0], w[1], w[2], w[3], w[4]), Due.BAD);
    }
}
