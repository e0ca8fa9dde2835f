import java.util.function.ToIntFunction;

/** Terms 3 up to WOBBLE, promises 14 to 20: greatest, best, from, late, parts, lamp, wobble. Each test is for one sentence. */
public final class ForetoldTest {
    // On these threads SHORT of w is w less 1, so that a disc of WEIGHT 10 gets F more pace a TICK.
    private static final String BOX = "disc 10 0 1; disc 5 0 1; disc 10 0 1; disc 1 99 1;"
        + "thread 1 1 800 999; thread 1 1 10 5; thread 1 1 10 999; thread 1 1 20 999; hand;";

    public static void main(String[] args) {
        runsOfTheirOwn();
        unwinds();
        greatestOfTicks();
        bestOfAll();
        fromWhereOn();
        lateBy();
        grows();
        howLate();
        partingTicks();
        lamps();
        lampBehindTheAir();
        wobbles();
        greatest();
        best();
        theOthers();
        Due.end();
    }

    // ---- terms

    private static void stays(String call, ToIntFunction<HummingDisc> made) {
        HummingDisc x = Due.of(BOX);
        made.applyAsInt(x);
        Due.is("no RUN behind " + call, x.kind(), Due.STATE);
        x.begin(0, 0, 0, 7);
        Due.pulls(x, 2, 1);
        String ahead = Due.state(x);
        Due.is(call + " is not refused", made.applyAsInt(x) >= 0 ? 1 : 0, 1);
        Due.areAlike("what is behind " + call, Due.state(x), ahead);
        Due.are("the RUN goes on behind " + call, Due.turnsAndPace(x, 1), -1, -3);
    }

    private static void runsOfTheirOwn() {
        whatIsStays();
        from1ToMost();
    }

    private static void whatIsStays() {
        Due.says("Terms", "FORETOLD (all by RUNS of their own; what is stays):");
        stays("greatest", x -> x.greatest(1, 1, 10, 2, 100, 0));
        stays("best", x -> x.best(10, 2, 100));
        stays("from", x -> x.from(1, 2, 10, 2, 100));
        stays("late", x -> x.late(1, 2, 10, 2, 100));
        stays("parts", x -> x.parts(1, 2, 10, 2, 1));
        stays("lamp", x -> x.lamp(1, 2, 10, 2, 100));
        stays("wobble", x -> x.wobble(1, 2));
        HummingDisc x = Due.of(BOX);
        x.begin(1, 1, 0, -10);
        Due.pulls(x, 99);
        Due.is("the RUN is SNAPPED", x.now(3), 1);
        Due.is("another is not", x.greatest(1, 1, 10, 1, 3, 1), 0);
        Due.is("nor has its pace", x.greatest(1, 1, 10, 1, 3, 0), 6);
        Due.is("of the first once more", x.greatest(1, 1, 10, 99, 3, 1), 1);
    }

    private static void from1ToMost() {
        Due.says("Terms", "a RUN from t0 (1 to MOST) at rest.");
        HummingDisc x = Due.of(BOX);
        int[] most = {800, 10, 10, 20};
        for (int thread = 0; thread < 4; thread++) {
            Due.is("from 1", x.greatest(0, thread, 1, 2, 3, 0), 0);
            Due.is("from MOST", x.greatest(0, thread, most[thread], 2, 1, 0), 2);
            for (int t0 : new int[] {0, -1, most[thread] + 1, Due.LEAST, Due.GREATEST}) {
                Due.is("greatest() from " + t0, x.greatest(0, thread, t0, 2, 3, 0), Due.BAD);
                Due.is("from() from " + t0, x.from(0, thread, t0, 2, 3), Due.BAD);
                Due.is("late() from " + t0, x.late(0, thread, t0, 2, 3), Due.BAD);
                Due.is("parts() from " + t0, x.parts(0, thread, t0, 2, 3), Due.BAD);
                Due.is("lamp() from " + t0, x.lamp(0, thread, t0, 2, 3), Due.BAD);
            }
        }
    }

    private static void unwinds() {
        unwindsBelow0();
        unwindsAtRest();
        unwindsAsItBegins();
        pulledByForce();
    }

    private static void unwindsBelow0() {
        Due.says("Terms", "It UNWINDS in a TICK, if v times t is below 0,");
        // From 10 by 2: to 8, 4, -2 with a pace of 2, 4, 6; at -2 it winds, to -8, and at MOST of 10 it stands.
        HummingDisc x = Due.of(BOX);
        Due.is("pulled at 10, 8, 4", x.greatest(0, 2, 10, 2, 3, 0), 6);
        Due.is("not at -2, -8", x.greatest(0, 2, 10, 2, 5, 0), 6);
    }

    private static void unwindsAtRest() {
        Due.says("Terms", "or v is 0,");
        // From 10 by 2: to 8, 4, -2 with a pace of 2, 4, 6; at -2 it winds, to -8, and at MOST of 10 it stands.
        HummingDisc x = Due.of(BOX);
        Due.is("pulled at rest", x.greatest(0, 2, 10, 2, 1, 0), 2);
        Due.is("pulled anew at -10, -8, -4, and 10, through 0 three times", x.lamp(0, 2, 10, 2, 13), 0);
    }

    private static void unwindsAsItBegins() {
        Due.says("Terms", "when that begins.");
        // From 10 by 2: to 8, 4, -2 with a pace of 2, 4, 6; at -2 it winds, to -8, and at MOST of 10 it stands.
        HummingDisc x = Due.of(BOX);
        Due.is("at 4, though t is -2 behind that TICK", x.greatest(0, 2, 10, 2, 3, 0), 6);
        // From 10 by 10 it is at 0 behind the first TICK, where it does not UNWIND; at MOST it does.
        Due.is("from 10 by 10", x.greatest(0, 2, 10, 10, 300, 0), 10);
    }

    private static void pulledByForce() {
        Due.says("Terms", "PULLED by F: F while it UNWINDS, else 0.");
        // From 10 by 2: to 8, 4, -2 with a pace of 2, 4, 6; at -2 it winds, to -8, and at MOST of 10 it stands.
        HummingDisc x = Due.of(BOX);
        Due.is("by 2: at 10, 8, 4", x.greatest(0, 0, 10, 2, 100, 0), 6);
        Due.is("by 3: at 10, 7, and at 1 the SLOPE is 0", x.greatest(0, 0, 10, 3, 100, 0), 6);
        Due.is("by 5: at 10, 5", x.greatest(0, 0, 10, 5, 50, 0), 10);
        Due.is("by 0", x.greatest(0, 0, 10, 0, 300, 0), 0);
    }

    private static void greatestOfTicks() {
        greatestBehindTheAir();
        greatestOfTheSnap();
    }

    private static void greatestBehindTheAir() {
        Due.says("Terms", "GREATEST: the greatest v either way (behind the air) of n TICKS");
        HummingDisc x = Due.of(BOX);
        Due.is("of 1 TICK", x.greatest(0, 0, 10, 2, 1, 0), 2);
        Due.is("of 2", x.greatest(0, 0, 10, 2, 2, 0), 4);
        Due.is("of 3", x.greatest(0, 0, 10, 2, 3, 0), 6);
        Due.is("of 100", x.greatest(0, 0, 10, 2, 100, 0), 6);
        Due.is("behind the air", x.greatest(3, 0, 200, 14, 1, 0), 122);
        Due.is("of the TICK that ends at MOST", x.greatest(0, 3, 20, 70, 1, 0), 70);
    }

    private static void greatestOfTheSnap() {
        Due.says("Terms", "(SNAPPED: that one too, none behind).");
        HummingDisc x = Due.of(BOX);
        Due.is("in the first", x.greatest(0, 1, 10, 60, 300, 0), 60);
        // From 10 by 6: 4, then -8 with 12, and beyond; pulled anew from there it would come to 12 once more.
        Due.is("in the third", x.greatest(0, 1, 10, 6, 300, 0), 12);
        HummingDisc y = Due.of("disc 10 0 1; thread 1 1 9 1; hand;");
        // From 4 by 3: 1, -2, -5, -8, SNAPPED at -9; from there it would be pulled anew: 3, 6.
        Due.is("from 4, in the fifth", y.greatest(0, 0, 4, 3, 300, 0), 3);
        y = Due.of("disc 10 0 1; thread 1 1 9 999; hand;");
        Due.is("if it held", y.greatest(0, 0, 4, 3, 300, 0), 6);
    }

    private static void bestOfAll() {
        bestOfAllOfThem();
        bestWithoutSnap();
        bestLeastDisc();
        bestLeastThread();
        bestIfAllSnap();
    }

    private static void bestOfAllOfThem() {
        // The second DISC gets twice the pace: from 10 by 2 to 6, -2 with 4, 8.
        Due.says("Terms", "BEST of all DISCS and THREADS by F, n: the greatest GREATEST");
        HummingDisc x = Due.of("disc 10 0 1; disc 5 0 1; disc 10 0 1; thread 1 1 800 999; hand;");
        Due.is("the second DISC", x.best(10, 2, 300), 8);
        x = Due.of("disc 10 0 1; thread 1 1 10 999; thread 1 1 30 999; thread 1 1 20 999; hand;");
        Due.is("the second THREAD, from 30", x.best(30, 2, 300), 1);
        x = Due.of("disc 10 0 1; disc 5 0 1; thread 1 1 10 999; thread 1 1 10 999; thread 1 1 10 999; thread 1 1 30 999; hand;");
        Due.is("the second DISC, the fourth THREAD", x.best(30, 2, 300), 8 + 3);
        Due.is("in 1 TICK", x.best(30, 2, 1), 8);
    }

    private static void bestWithoutSnap() {
        Due.says("Terms", "of those that do not SNAP,");
        HummingDisc x = Due.of("disc 10 0 1; disc 5 0 1; thread 1 1 10 5; thread 1 1 10 6; hand;");
        Due.is("the one that does not", x.best(800, 2, 300), 1);
        Due.is("none SNAPS in 2 TICKS", x.best(800, 2, 2), 8);
    }

    private static void bestLeastDisc() {
        Due.says("Terms", "of several the least DISC,");
        HummingDisc x = Due.of("disc 10 0 1; disc 5 0 1; disc 5 0 9; thread 1 1 10 999; hand;");
        Due.is("the second of three", x.best(10, 2, 300), 8);
        Due.is("all stand", x.best(10, 0, 300), 0);
        // From 20 by 20: DISC 0 gets 60 on THREAD 0, SNAPPED, and 20 on THREAD 1; DISC 1 gets 20 on THREAD 0.
        x = Due.of("disc 10 0 1; disc 30 0 1; thread 20 10 20 5; thread 1 1 20 999; hand;");
        Due.is("the least DISC, ahead of the least THREAD", x.best(20, 20, 1), 1);
    }

    private static void bestLeastThread() {
        Due.says("Terms", "then THREAD; NONE. FROM");
        HummingDisc x = Due.of("disc 10 0 1; disc 10 0 1; thread 1 1 10 1; thread 1 1 10 999; thread 1 1 10 998; hand;");
        Due.is("the second of three", x.best(10, 2, 300), 1);
        Due.is("all stand", x.best(1, 2, 300), 0);
    }

    private static void bestIfAllSnap() {
        Due.says("Terms", "NONE. FROM: F while");
        HummingDisc x = Due.of("disc 10 0 1; disc 5 0 1; thread 1 1 10 5; hand;");
        Due.is("all SNAP", x.best(10, 2, 300), Due.NONE);
    }

    private static void fromWhereOn() {
        pulledFromW();
        wUpToT0();
        fromWithoutSnap();
        fromGreatestOfSeveral();
        fromIfAllSnap();
    }

    private static void pulledFromW() {
        Due.says("Terms", "FROM: F while it UNWINDS and t is w or more from 0, else 0:");
        HummingDisc x = Due.of(BOX);
        Due.is("pulled at 10, 8, 4, not less far", x.from(0, 0, 10, 2, 100), 4);
        Due.is("pulled at 10, 8: in the third it is at 4, in the second at 8", x.from(0, 0, 10, 2, 2), 8);
        Due.is("pulled at 10", x.from(0, 0, 10, 2, 1), 10);
        Due.is("pulled anew at -10, -8, -4: no more than before", x.from(0, 2, 10, 2, 100), 4);
        // By 2 once it comes to -20, MOST; from there it is pulled at -20, -18, -14, -8, with 8 in the last.
        Due.is("from 0 either way", x.from(0, 3, 10, 2, 100), 8);
        // From 8 it is pulled at 8, 6, 2, with 6 in the last; anew at -10, -8, -4, with 6 in the last, too.
        Due.is("pulled anew, at 4, which it is not at first", x.from(0, 2, 8, 2, 100), 4);
    }

    private static void wUpToT0() {
        Due.says("Terms", "the w (0 to t0) by which GREATEST is most,");
        HummingDisc x = Due.of(BOX);
        // From 20 by 2: 18, 14, 8, 0: with 8 in the fourth.
        Due.is("8, not 10 to 14", x.from(0, 0, 20, 2, 100), 8);
        Due.is("t0 at most: it stands by all", x.from(0, 0, 20, 0, 100), 20);
        Due.is("t0 at most: from 1 it stands by all", x.from(0, 0, 1, 9, 100), 1);
    }

    private static void fromWithoutSnap() {
        Due.says("Terms", "of those by which it does not SNAP,");
        HummingDisc x = Due.of(BOX);
        // By 4 and less from 0 it comes to 6, beyond SNAP; by 5 to 8 to 4.
        Due.is("8", x.from(0, 1, 10, 2, 100), 8);
        Due.is("in 4 TICKS it does not come to MOST", x.from(0, 1, 10, 2, 4), 4);
    }

    private static void fromGreatestOfSeveral() {
        Due.says("Terms", "of several the greatest; NONE. LATE");
        // Up to 10 the SLOPE is 0: pulled at 15 and 12, it is not moved at 6.
        HummingDisc y = Due.of("disc 10 0 1; thread 1 10 800 999; hand;");
        Due.is("12 of 0 to 12", y.from(0, 0, 15, 3, 100), 12);
    }

    private static void fromIfAllSnap() {
        Due.says("Terms", "NONE. LATE by l");
        HummingDisc x = Due.of(BOX);
        Due.is("SNAPPED by all", x.from(0, 1, 10, 6, 300), Due.NONE);
    }

    private static void lateBy() {
        late0To30();
        notTheFirstTicks();
    }

    private static void late0To30() {
        Due.says("Terms", "LATE by l (0 to 30):");
        // From 10 by 2: 8, 4, -2, -8, -14: behind the fifth TICK it is farther than 10.
        HummingDisc x = Due.of(BOX);
        Due.is("0 in 5", x.late(0, 3, 10, 2, 5), 0);
        Due.is("29 in 34", x.late(0, 3, 10, 2, 34), 29);
        Due.is("30 in 35", x.late(0, 3, 10, 2, 35), 30);
        Due.is("30 in 36", x.late(0, 3, 10, 2, 36), 30);
        Due.is("30 in 300", x.late(0, 3, 10, 2, 300), 30);
    }

    private static void notTheFirstTicks() {
        Due.says("Terms", "F while it UNWINDS, but for the first l TICKS of each row of TICKS in which it does, else 0.");
        // From 10 by 2: 8, 4, -2, -8, -14: behind the fifth TICK it is farther than 10.
        HummingDisc x = Due.of(BOX);
        for (int n = 5; n <= 35; n++) Due.is("in " + n, x.late(0, 3, 10, 2, n), n - 5);
    }

    private static void grows() {
        fartherThanT0();
        growsAtMost();
        wasNearer();
    }

    private static void fartherThanT0() {
        Due.says("Terms", "GROWS within n TICKS: behind some TICK t is farther from 0 than t0,");
        HummingDisc x = Due.of(BOX);
        Due.is("-14 behind the fifth", x.late(0, 3, 10, 2, 5), 0);
        Due.is("-8 behind the fourth", x.late(0, 3, 10, 2, 4), Due.NONE);
        // From 11 by 2: 9, 5, -1, -7, -13; from 9: 7, 3, -3, -9, -15: as far as t0 behind the fourth.
        Due.is("as far is not farther", x.late(0, 3, 9, 2, 4), Due.NONE);
        Due.is("but in the fifth", x.late(0, 3, 9, 2, 5), 0);
        Due.is("farther at once", x.late(0, 3, 10, 25, 1), 0);
    }

    private static void growsAtMost() {
        Due.says("Terms", "or at MOST (either way)");
        HummingDisc x = Due.of(BOX);
        Due.is("from MOST to MOST the other way in 5 TICKS", x.late(0, 2, 10, 2, 5), 0);
        Due.is("in 4 it is at -8", x.late(0, 2, 10, 2, 4), Due.NONE);
        Due.is("SNAPPED there", x.late(0, 1, 10, 2, 5), 0);
    }

    private static void wasNearer() {
        Due.says("Terms", "and was nearer ahead of that TICK.");
        HummingDisc x = Due.of(BOX);
        Due.is("from MOST over to MOST in one TICK", x.late(0, 2, 10, 20, 1), Due.NONE);
        Due.is("and back, and so on", x.late(0, 2, 10, 20, 300), Due.NONE);
        Due.is("SNAPPED so", x.late(0, 1, 10, 30, 300), Due.NONE);
        Due.is("it stays at MOST", x.late(0, 2, 10, 0, 300), Due.NONE);
    }

    private static void howLate() {
        greatestLate();
        notEvenBy0();
    }

    private static void greatestLate() {
        Due.says("Terms", "The greatest l by which, and by all lesser ones, it GROWS;");
        HummingDisc x = Due.of(BOX);
        Due.is("2 in 7", x.late(0, 3, 10, 2, 7), 2);
    }

    private static void notEvenBy0() {
        Due.says("Terms", "NONE: not by 0.");
        HummingDisc x = Due.of(BOX);
        Due.is("it stands", x.late(0, 3, 10, 0, 300), Due.NONE);
        Due.is("too few TICKS", x.late(0, 3, 10, 2, 1), Due.NONE);
    }

    private static void partingTicks() {
        partsBehindTicks();
        parts500AtMost();
        partsSquares();
        partsTenTimesClear();
        partsNever();
    }

    private static void partsBehindTicks() {
        Due.says("Terms", "PARTS: PULLED by F: behind how many TICKS");
        // From 10 by 2 a pace of 2, 4, 6, 6, 6: the squares, added, are 4, 20, 56, 92, 128.
        HummingDisc x = Due.of(BOX);
        Due.is("10", x.parts(0, 0, 10, 2, 1), 2);
        Due.is("30", x.parts(0, 0, 10, 2, 3), 3);
        Due.is("60", x.parts(0, 0, 10, 2, 6), 4);
        Due.is("by 5: 25, 125", x.parts(0, 0, 10, 5, 12), 2);
    }

    private static void parts500AtMost() {
        Due.says("Terms", "(500 at most)");
        // SLOPES: 0 or 1 up to 400, which do not move it, and 3 beyond: from 401 a pace of 1, from 402 one of 1, then 2.
        HummingDisc y = Due.of("disc 21 0 1; thread 1 400 800 999; hand;");
        Due.is("500 behind the 500th", y.parts(0, 0, 401, 1, 50), 500);
        Due.is("510 not", y.parts(0, 0, 401, 1, 51), Due.NONE);
        Due.is("1993 behind the 499th", y.parts(0, 0, 402, 1, 199), 499);
        Due.is("1997 behind the 500th, 2001 would be the next", y.parts(0, 0, 402, 1, 200), Due.NONE);
    }

    private static void partsSquares() {
        Due.says("Terms", "the squares of v (as of GREATEST), added,");
        HummingDisc z = Due.of("disc 10 0 1; disc 1 99 1; thread 1 1 10 5; thread 1 1 20 999; hand;");
        Due.is("SNAPPED in the fifth, that too: 120", z.parts(0, 0, 10, 2, 12), 5);
        Due.is("none behind: 130", z.parts(0, 0, 10, 2, 13), Due.NONE);
        Due.is("of the TICK that ends at MOST: 6400", z.parts(0, 1, 20, 80, 640), 1);
        Due.is("122 behind the air: 14884", z.parts(1, 1, 20, 14, 1488), 1);
        Due.is("14890 in the next", z.parts(1, 1, 20, 14, 1489), 2);
        z = Due.of("disc 1 0 1; thread 99 400 800 1; hand;");
        Due.is("159390 by itself does not wrap", z.parts(0, 0, 800, 99, 999999), 1);
    }

    private static void partsTenTimesClear() {
        Due.says("Terms", "are 10 times clear (1 to 999999) or more;");
        // From 10 by 2 a pace of 2, 4, 6, 6, 6: the squares, added, are 4, 20, 56, 92, 128.
        HummingDisc x = Due.of(BOX);
        Due.is("20, just", x.parts(0, 0, 10, 2, 2), 2);
        Due.is("4 is less than 10", x.parts(0, 0, 10, 2, 1), 2);
        Due.is("100, just", x.parts(0, 0, 800, 10, 10), 1);
        Due.is("100 is less than 110", x.parts(0, 0, 800, 10, 11), 2);
        for (int clear : new int[] {0, -1, 1000000, Due.LEAST, Due.GREATEST}) {
            Due.is("clear of " + clear, x.parts(0, 0, 10, 2, clear), Due.BAD);
        }
    }

    private static void partsNever() {
        Due.says("Terms", "or more; NONE. LAMP");
        // From 10 by 2 a pace of 2, 4, 6, 6, 6: the squares, added, are 4, 20, 56, 92, 128.
        HummingDisc x = Due.of(BOX);
        Due.is("it stands", x.parts(0, 0, 10, 0, 1), Due.NONE);
        Due.is("too slow", x.parts(0, 0, 10, 2, 999999), Due.NONE);
    }

    private static void lamps() {
        lamp0To50();
        lampLeaves0AtLeast();
        lampThreeTimes();
        lampWithinTicks();
        lampPulled();
    }

    private static void lamp0To50() {
        // From 10 by 2 with 0: through 0 in the TICKS 3, 8, 13; with 1: in 4, 11, 16; with 2 it stands.
        Due.says("Terms", "LAMP: p (0 to 50) goes off v, without its sign,");
        HummingDisc x = Due.of(BOX);
        Due.is("1 of 0, 1", x.lamp(0, 2, 10, 2, 300), 1);
        Due.is("50 at most, though 51 would do", x.lamp(1, 2, 10, 99, 300), 50);
        // A pace of 12 is left, to -2, where it stands and is pulled anew; with 49 it would stand at -1, where the SLOPE is 0.
        Due.is("48 goes off 60", x.lamp(0, 2, 10, 60, 300), 48);
        // 4 and 8 are left: to 6, -2, where it stands; -2 and 2 by turns.
        Due.is("21 goes off 25, and 4 and 25", x.lamp(0, 2, 10, 25, 300), 21);
    }

    private static void lampLeaves0AtLeast() {
        Due.says("Terms", "(0 at least):");
        HummingDisc y = Due.of("disc 10 0 1; thread 1 1 4 5; hand;");
        Due.is("3 of 2 is not 1 the other way", y.lamp(0, 0, 2, 2, 8), Due.NONE);
    }

    private static void lampThreeTimes() {
        Due.says("Terms", "the greatest p by which it comes through 0 (as now() tells) three times");
        HummingDisc x = Due.of(BOX);
        // By 6: with 5 it comes to rest at 0; with 4 it comes through 0 in the TICKS 3, 7, 9; with 0 it SNAPS.
        Due.is("4, though not by 0", x.lamp(0, 1, 10, 6, 300), 4);
        Due.is("SNAPPED by 0 before the second", x.greatest(0, 1, 10, 6, 300, 1), 1);
        Due.is("three times, not two", x.lamp(0, 2, 10, 2, 12), Due.NONE);
        Due.is("three times, just", x.lamp(0, 2, 10, 2, 13), 0);
        Due.is("three times and more", x.lamp(0, 2, 10, 2, 300), 1);
        // With 14: 4, -10, where it stands, 19, 31 (MOST), where it stands; from there 95 to -31: through 0, and SNAPPED.
        HummingDisc y = Due.of("disc 21 0 1; thread 70 14 31 35; hand;");
        Due.is("the third time in the TICK that SNAPS", y.lamp(0, 0, 11, 46, 6), 14);
        Due.is("ahead of that TICK but two times", y.lamp(0, 0, 11, 46, 5), Due.NONE);
    }

    private static void lampWithinTicks() {
        Due.says("Terms", "within n TICKS,");
        HummingDisc x = Due.of(BOX);
        Due.is("in 16", x.lamp(0, 2, 10, 2, 16), 1);
        Due.is("in 15", x.lamp(0, 2, 10, 2, 15), 0);
    }

    private static void lampPulled() {
        Due.says("Terms", "PULLED by F; NONE. WOBBLE");
        HummingDisc x = Due.of(BOX);
        Due.is("by 2", x.lamp(0, 2, 10, 2, 300), 1);
        Due.is("by 6", x.lamp(0, 2, 10, 6, 300), 4);
        Due.is("it stands", x.lamp(0, 2, 10, 0, 300), Due.NONE);
        Due.is("SNAPPED by the first", x.lamp(0, 1, 10, 99, 300), Due.NONE);
    }

    private static void lampBehindTheAir() {
        Due.says("Terms", "behind the air, too");
        // 60 a TICK from 15: behind the air 59, and with 34 there is 25, just to -10, where it stands, and back by as much.
        HummingDisc x = Due.of("disc 20 51 1; thread 77 9 36 1; hand;");
        Due.is("35 ahead of the air would leave 25, too", x.lamp(0, 0, 15, 24, 8), 34);
    }

    private static void wobbles() {
        wobble1To50();
        wobbleNoMoreThanWeight();
    }

    private static void wobble1To50() {
        Due.says("Terms", "WOBBLE: holes off by o (1 to 50):");
        HummingDisc x = Due.of("disc 10 0 1; disc 999 0 1; disc 1 0 1; thread 1 1 1 1; hand;");
        Due.is("o of 1: 33 by 33 is 1089", x.wobble(0, 1), 33);
        Due.is("o of 50: 50 times 16", x.wobble(0, 50), 4);
        for (int o : new int[] {0, -1, 51, Due.LEAST, Due.GREATEST}) Due.is("o of " + o, x.wobble(0, o), Due.BAD);
    }

    private static void wobbleNoMoreThanWeight() {
        Due.says("Terms", "the greatest v for which o times v times v by 100 is no more than WEIGHT.");
        HummingDisc x = Due.of("disc 10 0 1; disc 999 0 1; disc 1 0 1; thread 1 1 1 1; hand;");
        Due.is("99856 by 100 is 998, 100489 is more than 999", x.wobble(1, 1), 316);
        Due.is("50 times 1936 by 100 is 968", x.wobble(1, 50), 44);
        Due.is("50 by 100 is 0, and 200 by 100 is 2", x.wobble(2, 50), 1);
        Due.is("2 times 81 by 100 is 1, just; 200 by 100 is 2", x.wobble(2, 2), 9);
    }

    // ---- promises 14 to 20

    private static void greatest() {
        greatestByForces();
        greatestOf1To300();
        greatestWhetherItSnaps();
        greatestBad();
    }

    private static void greatestByForces() {
        Due.says("Promise 14", "GREATEST, PULLED by F (0 to 99),");
        HummingDisc x = Due.of(BOX);
        Due.is("by 0", x.greatest(0, 0, 10, 0, 3, 0), 0);
        Due.is("by 99", x.greatest(0, 0, 10, 99, 3, 0), 99);
        for (int f : new int[] {-1, 100, Due.LEAST, Due.GREATEST}) {
            Due.is("by " + f, x.greatest(0, 0, 10, f, 3, 0), Due.BAD);
        }
    }

    private static void greatestOf1To300() {
        Due.says("Promise 14", "n 1 to 300;");
        HummingDisc x = Due.of(BOX);
        HummingDisc y = Due.of("disc 10 0 1; thread 1 1 800 2; hand;");
        Due.is("1", y.greatest(0, 0, 300, 1, 1, 0), 1);
        // From 2 by 3: -1, -4 and so on; beyond 800 in the 268th TICK.
        Due.is("in 267 it does not SNAP", y.greatest(0, 0, 2, 3, 267, 1), 0);
        Due.is("in 268 it does", y.greatest(0, 0, 2, 3, 268, 1), 1);
        Due.is("300", y.greatest(0, 0, 2, 3, 300, 1), 1);
        for (int n : new int[] {0, -1, 301, Due.LEAST, Due.GREATEST}) {
            Due.is("n of " + n, x.greatest(0, 0, 10, 2, n, 0), Due.BAD);
        }
    }

    private static void greatestWhetherItSnaps() {
        Due.says("Promise 14", "whether it SNAPS (what = 1).");
        HummingDisc x = Due.of(BOX);
        Due.is("not in 4 TICKS", x.greatest(0, 1, 10, 2, 4, 1), 0);
        Due.is("in 5", x.greatest(0, 1, 10, 2, 5, 1), 1);
        Due.is("in 300", x.greatest(0, 1, 10, 2, 300, 1), 1);
        Due.is("on another THREAD", x.greatest(0, 2, 10, 2, 300, 1), 0);
        Due.is("behind one that does", x.greatest(0, 1, 10, 1, 300, 1), 0);
    }

    private static void greatestBad() {
        Due.says("Promise 14", "BAD.");
        HummingDisc x = Due.of(BOX);
        for (int what : new int[] {-1, 2, Due.LEAST, Due.GREATEST}) {
            Due.is("what of " + what, x.greatest(0, 0, 1, 1, 1, what), Due.BAD);
        }
        refusesWrongOnes("greatest", (d, h, f, n) -> Due.of(BOX).greatest(d, h, 5, f, n, 0), true);
        Due.is("without a BOX", new HummingDisc().greatest(0, 0, 1, 1, 1, 0), Due.BAD);
    }

    private interface Foretold {
        int of(int disc, int thread, int f, int n);
    }

    /** A DISC, a THREAD, an F, an n that are not as told; there are 4 DISCS and THREADS. */
    private static void refusesWrongOnes(String call, Foretold told, boolean byTicks) {
        Due.is(call + "() at the edges", told.of(3, 3, 99, 300) == Due.BAD ? 1 : 0, 0);
        Due.is(call + "() at the other edges", told.of(0, 0, 0, 1) == Due.BAD ? 1 : 0, 0);
        for (int wrong : new int[] {-1, 4, Due.LEAST, Due.GREATEST}) {
            Due.is(call + "() of DISC " + wrong, told.of(wrong, 0, 1, 1), Due.BAD);
            Due.is(call + "() of THREAD " + wrong, told.of(0, wrong, 1, 1), Due.BAD);
        }
        for (int wrong : new int[] {-1, 100, Due.LEAST, Due.GREATEST}) {
            Due.is(call + "() by " + wrong, told.of(0, 0, wrong, 1), Due.BAD);
        }
        for (int wrong : new int[] {0, -1, 301, Due.LEAST, Due.GREATEST}) {
            if (byTicks) Due.is(call + "() of n " + wrong, told.of(0, 0, 1, wrong), Due.BAD);
        }
    }

    private static void best() {
        bestByForceAndTicks();
        bestFrom1To800();
        bestFromMostIfLess();
        best8TimesTheDisc();
        bestNone();
        bestBad();
        bestNoBox();
    }

    private static void bestByForceAndTicks() {
        Due.says("Promise 15", "BEST by F, n,");
        HummingDisc x = Due.of("disc 10 0 1; disc 5 0 1; thread 1 1 10 5; thread 1 1 40 999; hand;");
        Due.is("by 1, 300", x.best(40, 1, 300), 8 + 1);
        Due.is("by 1, 1: all alike, from 10 and 40", x.best(40, 1, 1), 8);
    }

    private static void bestFrom1To800() {
        Due.says("Promise 15", "from t0 (1 to 800;");
        HummingDisc x = Due.of("disc 10 0 1; disc 5 0 1; thread 1 1 10 5; thread 1 1 40 999; hand;");
        Due.is("1", x.best(1, 1, 1), 0);
        Due.is("800", x.best(800, 1, 1), 8);
        for (int t0 : new int[] {0, -1, 801, Due.LEAST, Due.GREATEST}) Due.is("t0 of " + t0, x.best(t0, 1, 1), Due.BAD);
    }

    private static void bestFromMostIfLess() {
        Due.says("Promise 15", "MOST of a THREAD, if that is less):");
        HummingDisc y = Due.of("disc 10 0 1; thread 1 1 5 999; thread 1 1 10 999; thread 1 1 40 999; hand;");
        Due.is("from 5, 5, 5: 3, -1 with 4", y.best(5, 2, 3), 0);
        Due.is("from 5, 10, 10: 8, 4, -2 with 6", y.best(10, 2, 3), 1);
        Due.is("from 5, 10, 11", y.best(11, 2, 3), 1);
        Due.is("from 5, 10, 20: with 8 in the fourth", y.best(20, 2, 4), 2);
        Due.is("from 5, 10, 40", y.best(800, 2, 4), 2);
        y = Due.of("disc 10 0 1; thread 1 1 5 999; thread 1 1 10 999; hand;");
        Due.is("from 5, 10, by far less than t0", y.best(800, 2, 3), 1);
    }

    private static void best8TimesTheDisc() {
        Due.says("Promise 15", "8 times the DISC, and the THREAD;");
        HummingDisc y = Due.of("disc 999 0 1; disc 999 0 1; disc 999 0 1; disc 10 0 1;"
            + "thread 1 1 10 999; thread 1 1 11 999; thread 1 1 12 999; thread 1 1 90 999; hand;");
        Due.is("the last of each", y.best(90, 2, 300), 8 * 3 + 3);
    }

    private static void bestNone() {
        Due.says("Promise 15", "NONE.");
        HummingDisc y = Due.of("disc 10 0 1; disc 5 0 1; thread 1 1 10 1; hand;");
        Due.is("all SNAP", y.best(10, 9, 300), Due.NONE);
    }

    private static void bestBad() {
        Due.says("Promise 15", "BAD;");
        HummingDisc x = Due.of("disc 10 0 1; disc 5 0 1; thread 1 1 10 5; thread 1 1 40 999; hand;");
        for (int f : new int[] {-1, 100, Due.LEAST, Due.GREATEST}) Due.is("by " + f, x.best(1, f, 1), Due.BAD);
        for (int n : new int[] {0, -1, 301, Due.LEAST, Due.GREATEST}) Due.is("n of " + n, x.best(1, 1, n), Due.BAD);
        Due.is("at the edges", x.best(800, 99, 300) == Due.BAD ? 1 : 0, 0);
    }

    private static void bestNoBox() {
        Due.says("Promise 15", "STATE: no BOX (ahead of BAD).");
        Due.is("no BOX", new HummingDisc().best(1, 1, 1), Due.STATE);
        Due.is("ahead of t0", new HummingDisc().best(0, 1, 1), Due.STATE);
        Due.is("ahead of F", new HummingDisc().best(1, 100, 1), Due.STATE);
        Due.is("ahead of n", new HummingDisc().best(1, 1, 0), Due.STATE);
    }

    private static void theOthers() {
        fromAnswers();
        fromBad();
        lateAnswers();
        lateBad();
        partsAnswers();
        partsBad();
        lampAnswers();
        lampBad();
        wobbleOfADisc();
        wobbleBad();
    }

    private static void fromAnswers() {
        Due.says("Promise 16", "FROM; NONE.");
        HummingDisc x = Due.of(BOX);
        Due.is("FROM", x.from(0, 0, 10, 2, 100), 4);
        Due.is("NONE", x.from(0, 1, 10, 6, 300), Due.NONE);
    }

    private static void fromBad() {
        Due.says("Promise 16", "BAD.");
        HummingDisc none = new HummingDisc();
        refusesWrongOnes("from", (d, h, f, n) -> Due.of(BOX).from(d, h, 5, f, n), true);
        Due.is("without a BOX", none.from(0, 0, 1, 1, 1), Due.BAD);
    }

    private static void lateAnswers() {
        Due.says("Promise 17", "LATE; NONE.");
        HummingDisc x = Due.of(BOX);
        Due.is("LATE", x.late(0, 3, 10, 2, 6), 1);
        Due.is("NONE", x.late(0, 3, 10, 2, 4), Due.NONE);
    }

    private static void lateBad() {
        Due.says("Promise 17", "BAD.");
        HummingDisc none = new HummingDisc();
        refusesWrongOnes("late", (d, h, f, n) -> Due.of(BOX).late(d, h, 5, f, n), true);
        Due.is("without a BOX", none.late(0, 0, 1, 1, 1), Due.BAD);
    }

    private static void partsAnswers() {
        Due.says("Promise 18", "PARTS; NONE.");
        HummingDisc x = Due.of(BOX);
        Due.is("PARTS", x.parts(0, 0, 10, 2, 3), 3);
        Due.is("NONE", x.parts(0, 0, 10, 2, 999999), Due.NONE);
    }

    private static void partsBad() {
        Due.says("Promise 18", "BAD.");
        HummingDisc none = new HummingDisc();
        HummingDisc x = Due.of(BOX);
        refusesWrongOnes("parts", (d, h, f, n) -> Due.of(BOX).parts(d, h, 5, f, 999999), false);
        for (int clear : new int[] {0, -1, 1000000}) Due.is("clear of " + clear, x.parts(0, 0, 1, 1, clear), Due.BAD);
        Due.is("without a BOX", none.parts(0, 0, 1, 1, 1), Due.BAD);
    }

    private static void lampAnswers() {
        Due.says("Promise 19", "LAMP; NONE.");
        HummingDisc x = Due.of(BOX);
        Due.is("LAMP", x.lamp(0, 2, 10, 2, 300), 1);
        Due.is("NONE", x.lamp(0, 2, 10, 2, 12), Due.NONE);
    }

    private static void lampBad() {
        Due.says("Promise 19", "BAD.");
        HummingDisc none = new HummingDisc();
        refusesWrongOnes("lamp", (d, h, f, n) -> Due.of(BOX).lamp(d, h, 5, f, n), true);
        Due.is("without a BOX", none.lamp(0, 0, 1, 1, 1), Due.BAD);
    }

    private static void wobbleOfADisc() {
        Due.says("Promise 20", "WOBBLE of a DISC.");
        HummingDisc x = Due.of(BOX);
        Due.is("DISC 0", x.wobble(0, 1), 33);
        Due.is("DISC 1", x.wobble(1, 1), 24);
        Due.is("DISC 3", x.wobble(3, 1), 14);
    }

    private static void wobbleBad() {
        Due.says("Promise 20", "BAD.");
        HummingDisc none = new HummingDisc();
        HummingDisc x = Due.of(BOX);
        for (int disc : new int[] {-1, 4, Due.LEAST, Due.GREATEST}) Due.is("DISC " + disc, x.wobble(disc, 1), Due.BAD);
        for (int o : new int[] {0, 51, -1, Due.LEAST, Due.GREATEST}) Due.is("o of " + o, x.wobble(0, o), Due.BAD);
        Due.is("without a BOX", none.wobble(0, 1), Due.BAD);
    }
}
