/** Terms 3 (SOUND, TUNE), promises 21 to 23: sound, tune, forces. Each test is for one sentence, or a part of one. */
public final class SoundsTest {
    private static final String BOX = "disc 10 0 1; disc 10 0 10; disc 10 0 7; thread 1 1 10 999; thread 1 1 10 5; hand;";
    private static final int[] NO_ROWS = {-1, 8, Due.LEAST, Due.GREATEST};

    public static void main(String[] args) {
        heardPaces();
        tuneForces();
        tuneOf120Ticks();
        loud();
        howFarOff();
        toldForces();
        sound();
        tune();
        forces();
        Due.end();
    }

    /** SOUND by a DISC (TEETH: 1, 10, 7) of these tones: PULLS (what = 0), the greatest v (1). */
    private static int heard(int disc, int what, int... tones) {
        HummingDisc x = Due.of(BOX);
        Due.row(x, 3, 1, tones);
        return x.sound(disc, 3, 0, tones.length, what);
    }

    private static void heardPaces() {
        toneByTeeth();
        pullsHeard();
        alikeOnes();
        greatestHeard();
    }

    private static void toneByTeeth() {
        Due.says("Terms", "SOUND: a row of tones, one a TICK: v: tone by TEETH (cut);");
        Due.is("by 1", heard(0, 1, 0, 39), 39);
        Due.is("by 10, cut", heard(1, 1, 0, 39), 3);
        Due.is("by 7, cut", heard(2, 1, 0, 27), 3);
        Due.is("by 7, just", heard(2, 1, 0, 28), 4);
        Due.is("39, 31, 39 by 10 are alike", heard(1, 0, 39, 31, 39), 0);
        Due.is("30, 29, 30 by 10 are not", heard(1, 0, 30, 29, 30), 1);
        Due.is("less than 7 are 0", heard(2, 0, 6, 0, 6), 0);
    }

    private static void pullsHeard() {
        Due.says("Terms", "PULLS: how often v rises again behind falling");
        Due.is("rising alone", heard(0, 0, 1, 2, 3), 0);
        Due.is("falling alone", heard(0, 0, 3, 2, 1), 0);
        Due.is("falling behind rising", heard(0, 0, 1, 2, 1), 0);
        Due.is("once", heard(0, 0, 3, 2, 3), 1);
        Due.is("once, falling on and rising on", heard(0, 0, 5, 4, 3, 4, 5, 6), 1);
        Due.is("twice", heard(0, 0, 3, 2, 3, 2, 3), 2);
        Due.is("thrice", heard(0, 0, 0, 5, 0, 5, 0, 5, 0, 5), 3);
        Due.is("of two", heard(0, 0, 1, 2), 0);
        Due.is("by v, not by tone: 5, 3, 3", heard(1, 0, 50, 30, 39), 0);
        Due.is("by v: 5, 3, 3, 4, 4", heard(1, 0, 50, 30, 39, 40, 49), 1);
    }

    private static void alikeOnes() {
        Due.says("Terms", "(alike ones are passed over);");
        Due.is("alone", heard(0, 0, 5, 5, 5, 5), 0);
        Due.is("in falling", heard(0, 0, 3, 3, 2, 2, 2, 3), 1);
        Due.is("in rising", heard(0, 0, 3, 2, 3, 3, 4, 4), 1);
        Due.is("ahead of rising, and no falling", heard(0, 0, 2, 2, 2, 3), 0);
        Due.is("between falling and falling", heard(0, 0, 9, 5, 5, 1, 1, 4, 4, 6, 2, 2, 3), 2);
    }

    private static void greatestHeard() {
        Due.says("Terms", "(alike ones are passed over); the greatest v.");
        Due.is("the first", heard(0, 1, 9, 1, 8), 9);
        Due.is("the last", heard(0, 1, 8, 1, 9), 9);
        Due.is("of nothing", heard(0, 1, 0, 0, 0), 0);
    }

    /** TUNE of a DISC on a THREAD from t0: how far off, and by which forces. */
    private static void tunes(int disc, int thread, int t0, int[] tones, int off, int forces) {
        HummingDisc x = Due.of(BOX);
        Due.row(x, 2, 2, tones);
        Due.is("tune()", x.tune(disc, thread, t0, 2, 0, tones.length), off);
        Due.is("forces()", x.forces(), forces);
    }

    // From 10, MOST, by 10 times f: a pace of 10 f, to 0 or beyond at once, then to MOST the other way, and so on.

    private static void tuneForces() {
        forces0To9();
        tenTimesTheForce();
        notPulledElse();
    }

    private static void forces0To9() {
        Due.says("Terms", "TUNE: k tones (1 to 3): forces 0 to 9, one for each:");
        tunes(0, 0, 10, new int[] {90}, 0, 9);
        tunes(0, 0, 10, new int[] {110}, 20, 9);
        tunes(0, 0, 10, new int[] {0}, 0, 0);
        tunes(0, 0, 10, new int[] {90, 90}, 0, 99);
        tunes(0, 0, 10, new int[] {90, 90, 90}, 0, 999);
    }

    private static void tenTimesTheForce() {
        Due.says("Terms", "10 times the j-th (0 on) is F while it UNWINDS and has come through 0 just j times,");
        tunes(0, 0, 10, new int[] {10}, 0, 1);
        tunes(0, 0, 10, new int[] {40, 70}, 0, 47);
        tunes(0, 0, 10, new int[] {40, 70, 20}, 0, 472);
        tunes(0, 0, 10, new int[] {20, 90, 10}, 0, 291);
    }

    private static void notPulledElse() {
        Due.says("Terms", "else 0 (j below k).");
        tunes(0, 0, 10, new int[] {10, 10}, 0, 11);
        // From 18 by 10: 8, -12; it winds with 20, not pulled, to -800; from there it gets 10 more a TICK: 130 at -20.
        HummingDisc x = Due.of("disc 10 0 1; thread 1 1 800 999; hand;");
        Due.row(x, 0, 1, 20, 130);
        Due.is("while it winds", x.tune(0, 0, 18, 0, 0, 2), 0);
        Due.is("forces()", x.forces(), 11);
        // SNAPPED by what comes behind the last tone, it would be as it is: nothing is heard there.
        tunes(0, 1, 10, new int[] {90}, 0, 9);
    }

    private static void tuneOf120Ticks() {
        Due.says("Terms", "120 TICKS:");
        // By 10 from 770 it is through 0 in the TICKS 39 and 98, and at MOST in 59 and 118: the third force has two left.
        HummingDisc x = Due.of("disc 100 0 1; thread 1 1 770 999; hand;");
        Due.row(x, 0, 0, 39, 39, 6);
        Due.is("6 by two TICKS of 3", x.tune(0, 0, 770, 0, 0, 3), 0);
        Due.is("forces()", x.forces(), 113);
    }

    private static void loud() {
        loudWhileItUnwinds();
        loudOfJ();
        loudByTeeth();
        loudOfNone();
    }

    private static void loudWhileItUnwinds() {
        Due.says("Terms", "LOUD of j: the greatest v either way (as of GREATEST) of TICKS in which it UNWINDS");
        tunes(0, 0, 10, new int[] {30}, 0, 3);
        // The TICK that ends at MOST, and the one that SNAPS, are heard.
        tunes(0, 0, 10, new int[] {80}, 0, 8);
        tunes(0, 1, 10, new int[] {80}, 0, 8);
        // Behind the first it goes on from 0 with 10, which is no TICK in which it UNWINDS.
        tunes(0, 0, 10, new int[] {10, 0}, 0, 10);
        HummingDisc x = Due.of("disc 10 0 1; disc 1 99 1; thread 1 1 800 999; thread 1 1 20 999; hand;");
        Due.row(x, 0, 1, 20, 0);
        // From 18 by 10 to 8, -12, where it winds with a pace of 20.
        Due.is("winding is not heard", x.tune(0, 0, 18, 0, 0, 2), 0);
        Due.is("forces()", x.forces(), 10);
        Due.row(x, 0, 1, 90);
        Due.is("100 behind the air: 100 less 9; 10 are heard as 91", x.tune(1, 1, 20, 0, 0, 1), 1);
    }

    private static void loudOfJ() {
        Due.says("Terms", "and had come through 0 just j times,");
        // The TICK that comes through 0 is still one of j.
        tunes(0, 0, 10, new int[] {40, 0}, 0, 40);
        tunes(1, 0, 10, new int[] {0, 50}, 50, 0);
        tunes(0, 0, 10, new int[] {10, 0, 9}, 9, 100);
    }

    private static void loudByTeeth() {
        Due.says("Terms", "times TEETH");
        tunes(1, 0, 10, new int[] {300}, 0, 3);
        tunes(2, 0, 10, new int[] {280, 70}, 0, 41);
    }

    private static void loudOfNone() {
        Due.says("Terms", "(0: none):");
        tunes(0, 0, 10, new int[] {0, 7, 7}, 14, 0);
        tunes(0, 0, 1, new int[] {5, 6}, 11, 0);
        tunes(0, 1, 10, new int[] {20, 30}, 30, 20);
    }

    private static void howFarOff() {
        Due.says("Terms", "how far off the j-th tone, added: by which forces that is least;");
        tunes(1, 0, 10, new int[] {251}, 49, 3);
        tunes(1, 0, 10, new int[] {249}, 49, 2);
        tunes(1, 0, 10, new int[] {251, 302}, 51, 33);
        tunes(1, 0, 10, new int[] {351, 299, 501}, 51, 435);
        tunes(0, 0, 10, new int[] {32767, 32767, 32767}, 3 * 32677, 999);
        // Added, it is less though the first is farther off: without the first no second is heard.
        tunes(0, 0, 10, new int[] {0, 90}, 10, 19);
        tunes(0, 0, 10, new int[] {10, 0, 50}, 10, 115);
    }

    private static void toldForces() {
        threeForcesTold();
        twoForcesTold();
        oneForceTold();
        leastForcesTold();
    }

    private static void threeForcesTold() {
        Due.says("Terms", "told as the first times 100, the second times 10, the third added");
        tunes(0, 0, 10, new int[] {10, 20, 30}, 0, 123);
        tunes(0, 0, 10, new int[] {30, 20, 0}, 0, 320);
    }

    private static void twoForcesTold() {
        Due.says("Terms", "(of two: times 10 and added;");
        tunes(0, 0, 10, new int[] {50, 60}, 0, 56);
        tunes(0, 0, 10, new int[] {10, 0}, 0, 10);
    }

    private static void oneForceTold() {
        Due.says("Terms", "one: as it is),");
        tunes(0, 0, 10, new int[] {70}, 0, 7);
    }

    private static void leastForcesTold() {
        Due.says("Terms", "of several the least so.");
        tunes(0, 0, 10, new int[] {25}, 5, 2);
        tunes(0, 0, 10, new int[] {25, 45}, 10, 24);
        tunes(0, 0, 10, new int[] {0, 5, 5}, 10, 0);
        tunes(0, 0, 10, new int[] {20, 0, 0}, 0, 200);
        tunes(0, 0, 1, new int[] {0, 0, 0}, 0, 0);
    }

    // ---- promises 21 to 23

    /** With a ROW 0 of tones, some of which are none. */
    private static HummingDisc withTones() {
        HummingDisc x = Due.of(BOX);
        Due.row(x, 0, 2, 9, 0, 32767, 32768, 5, -1, 7, 2, 8);
        return x;
    }

    private static void sound() {
        soundByTeeth();
        soundOf2To40();
        soundOf0To32767();
        soundFromTheMidst();
        soundPulls();
        soundGreatest();
        soundBad();
        soundNull();
        soundPlace();
        soundBadItem();
    }

    private static void soundByTeeth() {
        Due.says("Promise 21", "SOUND by a DISC's TEETH,");
        HummingDisc x = withTones();
        Due.is("1", x.sound(0, 0, 0, 2, 1), 9);
        Due.is("10", x.sound(1, 0, 0, 2, 1), 0);
        Due.is("7", x.sound(2, 0, 0, 2, 1), 1);
    }

    private static void soundOf2To40() {
        Due.says("Promise 21", "n tones (2 to 40;");
        HummingDisc x = withTones();
        Due.is("2", x.sound(0, 0, 0, 2, 0), 0);
        HummingDisc y = Due.of(BOX);
        y.row(1, 1, 40);
        for (int i = 0; i < 40; i++) y.set(1, i, i % 2);
        Due.is("40", y.sound(0, 1, 0, 40, 0), 19);
        Due.is("39", y.sound(0, 1, 1, 39, 0), 19);
    }

    private static void soundOf0To32767() {
        Due.says("Promise 21", "0 to 32767 each),");
        HummingDisc x = withTones();
        Due.is("0, 32767", x.sound(0, 0, 1, 2, 1), 32767);
    }

    private static void soundFromTheMidst() {
        Due.says("Promise 21", "ITEMS of a ROW from i on:");
        HummingDisc y = Due.of(BOX);
        for (int lane = 0; lane < 3; lane++) {
            Due.row(y, 2, lane, 99, 1, 5, 1, 6, 98);
            Due.is("from the midst", y.sound(0, 2, 1, 4, 1), 6);
            Due.is("PULLS from the midst", y.sound(0, 2, 1, 4, 0), 1);
        }
    }

    private static void soundPulls() {
        Due.says("Promise 21", "PULLS (what = 0),");
        HummingDisc x = withTones();
        Due.is("7, 2, 8", x.sound(0, 0, 6, 3, 0), 1);
    }

    private static void soundGreatest() {
        Due.says("Promise 21", "the greatest v (1).");
        HummingDisc x = withTones();
        Due.is("7, 2, 8", x.sound(0, 0, 6, 3, 1), 8);
    }

    private static void soundBad() {
        Due.says("Promise 21", "BAD: DISC, ROW, n, what;");
        HummingDisc x = withTones();
        for (int disc : new int[] {-1, 3, Due.LEAST, Due.GREATEST}) {
            Due.is("DISC " + disc, x.sound(disc, 0, 0, 2, 0), Due.BAD);
        }
        for (int row : NO_ROWS) Due.is("ROW " + row, x.sound(0, row, 0, 2, 0), Due.BAD);
        for (int n : new int[] {1, 0, -1, 41, Due.LEAST, Due.GREATEST}) {
            Due.is("n of " + n, x.sound(0, 0, 0, n, 0), Due.BAD);
        }
        for (int what : new int[] {-1, 2, Due.LEAST, Due.GREATEST}) {
            Due.is("what of " + what, x.sound(0, 0, 0, 2, what), Due.BAD);
        }
        Due.is("ahead of NULL", x.sound(0, 1, 0, 2, 2), Due.BAD);
        Due.is("without a BOX", new HummingDisc().sound(0, 0, 0, 2, 0), Due.BAD);
    }

    private static void soundNull() {
        Due.says("Promise 21", "NULL;");
        HummingDisc x = withTones();
        Due.is("a missing ROW", x.sound(0, 1, 0, 2, 0), Due.NULL);
        Due.is("ahead of PLACE", x.sound(0, 1, -1, 40, 1), Due.NULL);
    }

    private static void soundPlace() {
        Due.says("Promise 21", "PLACE;");
        HummingDisc x = withTones();
        Due.is("beyond the end", x.sound(0, 0, 8, 2, 0), Due.PLACE);
        for (int i : new int[] {-1, 9, Due.LEAST, Due.GREATEST}) Due.is("i of " + i, x.sound(0, 0, i, 2, 0), Due.PLACE);
        Due.is("ahead of a bad ITEM", x.sound(0, 0, 3, 7, 0), Due.PLACE);
    }

    private static void soundBadItem() {
        Due.says("Promise 21", "then BAD: an ITEM.");
        HummingDisc x = withTones();
        Due.is("32767, 32768", x.sound(0, 0, 2, 2, 0), Due.BAD);
        Due.is("32768, 5", x.sound(0, 0, 3, 2, 1), Due.BAD);
        Due.is("5, -1", x.sound(0, 0, 4, 2, 0), Due.BAD);
    }

    /** With a ROW 0 of other tones, some of which are none. */
    private static HummingDisc withATune() {
        HummingDisc x = Due.of(BOX);
        Due.row(x, 0, 2, 1, 0, 32767, 32768, -1, 300, 200);
        return x;
    }

    private static void tune() {
        tuneOfADisc();
        tuneOf1To3();
        tuneOf0To32767();
        tuneFromTheMidst();
        tune120Ticks();
        tuneFarOff();
        tuneBad();
        tuneNull();
        tunePlace();
        tuneBadItem();
    }

    private static void tuneOfADisc() {
        Due.says("Promise 22", "TUNE of a DISC on a THREAD from t0,");
        HummingDisc x = withATune();
        Due.is("DISC 1, THREAD 0, 10", x.tune(1, 0, 10, 0, 5, 2), 0);
        Due.is("DISC 0", x.tune(0, 0, 10, 0, 5, 2), 210 + 110);
        Due.is("THREAD 1 SNAPS", x.tune(1, 1, 10, 0, 5, 2), 200);
        Due.is("from 1 nothing moves", x.tune(1, 0, 1, 0, 5, 2), 500);
        for (int t0 : new int[] {0, -1, 11, Due.LEAST, Due.GREATEST}) {
            Due.is("t0 of " + t0, x.tune(0, 0, t0, 0, 0, 1), Due.BAD);
        }
    }

    private static void tuneOf1To3() {
        Due.says("Promise 22", "k tones (1 to 3;");
        HummingDisc x = withATune();
        Due.is("1", x.tune(0, 0, 10, 0, 0, 1), 1);
        Due.is("3: by 119", x.tune(0, 0, 10, 0, 0, 3), 9 + 10 + 32677);
    }

    private static void tuneOf0To32767() {
        Due.says("Promise 22", "0 to 32767 each),");
        HummingDisc x = withATune();
        Due.is("0", x.tune(0, 0, 10, 0, 1, 1), 0);
        Due.is("32767", x.tune(0, 0, 10, 0, 2, 1), 32677);
    }

    private static void tuneFromTheMidst() {
        Due.says("Promise 22", "ITEMS of a ROW from i on,");
        HummingDisc x = withATune();
        Due.is("300", x.tune(1, 0, 10, 0, 5, 1), 0);
        Due.is("its force", x.forces(), 3);
        Due.is("200", x.tune(1, 0, 10, 0, 6, 1), 0);
        Due.is("its force", x.forces(), 2);
    }

    private static void tune120Ticks() {
        Due.says("Promise 22", "120 TICKS:");
        HummingDisc y = Due.of("disc 100 0 1; thread 1 1 770 999; hand;");
        Due.row(y, 0, 0, 39, 39, 9);
        Due.is("the third tone has the last two TICKS: 9 is not 4.5 twice", y.tune(0, 0, 770, 0, 0, 3), 1);
        Due.is("but 4 twice", y.forces(), 114);
    }

    private static void tuneFarOff() {
        Due.says("Promise 22", "how far off at least.");
        Due.is("2 or 3 of 251", tuneOf(251), 49);
        Due.is("9 of 999", tuneOf(999), 99);
    }

    private static void tuneBad() {
        Due.says("Promise 22", "BAD: DISC, THREAD, t0, ROW, k;");
        HummingDisc x = withATune();
        for (int disc : new int[] {-1, 3, Due.LEAST, Due.GREATEST}) {
            Due.is("DISC " + disc, x.tune(disc, 0, 1, 0, 0, 1), Due.BAD);
        }
        for (int thread : new int[] {-1, 2, Due.LEAST, Due.GREATEST}) {
            Due.is("THREAD " + thread, x.tune(0, thread, 1, 0, 0, 1), Due.BAD);
        }
        for (int row : NO_ROWS) Due.is("ROW " + row, x.tune(0, 0, 1, row, 0, 1), Due.BAD);
        Due.row(x, 1, 2, 1, 2, 3, 4);
        for (int k : new int[] {0, -1, 4, Due.LEAST, Due.GREATEST}) {
            Due.is("k of " + k, x.tune(0, 0, 1, 1, 0, k), Due.BAD);
        }
        x.drop(1);
        Due.is("ahead of NULL", x.tune(0, 0, 11, 1, 0, 1), Due.BAD);
        Due.is("without a BOX", new HummingDisc().tune(0, 0, 1, 0, 0, 1), Due.BAD);
    }

    private static void tuneNull() {
        Due.says("Promise 22", "NULL;");
        HummingDisc x = withATune();
        Due.is("a missing ROW", x.tune(0, 0, 1, 1, 0, 1), Due.NULL);
        Due.is("ahead of PLACE", x.tune(0, 0, 1, 1, -1, 3), Due.NULL);
    }

    private static void tunePlace() {
        Due.says("Promise 22", "PLACE;");
        HummingDisc x = withATune();
        Due.is("beyond the end", x.tune(0, 0, 1, 0, 6, 2), Due.PLACE);
        for (int i : new int[] {-1, 7, Due.LEAST, Due.GREATEST}) {
            Due.is("i of " + i, x.tune(0, 0, 1, 0, i, 1), Due.PLACE);
        }
        Due.row(x, 1, 2, 5, -1);
        Due.is("ahead of a bad ITEM", x.tune(0, 0, 1, 1, 0, 3), Due.PLACE);
    }

    private static void tuneBadItem() {
        Due.says("Promise 22", "then BAD: an ITEM.");
        HummingDisc x = withATune();
        Due.is("32768", x.tune(0, 0, 1, 0, 3, 1), Due.BAD);
        Due.is("-1", x.tune(0, 0, 1, 0, 4, 1), Due.BAD);
        Due.is("1, 0, then none of two", x.tune(0, 0, 1, 0, 1, 3), Due.BAD);
    }

    private static int tuneOf(int tone) {
        HummingDisc x = Due.of(BOX);
        Due.row(x, 0, 1, tone);
        return x.tune(1, 0, 10, 0, 0, 1);
    }

    private static HummingDisc withForces() {
        HummingDisc x = Due.of(BOX);
        Due.row(x, 0, 1, 300, -1, 200, 400, 500);
        return x;
    }

    private static void forces() {
        noForcesYet();
        latestForces();
        forcesStayBehindRefusals();
        forcesAsANumber();
    }

    private static void noForcesYet() {
        Due.says("Promise 23", "NONE: there was none.");
        HummingDisc x = withForces();
        Due.is("at first", x.forces(), Due.NONE);
        x.tune(1, 0, 10, 0, 1, 1);
        Due.is("BAD alone", x.forces(), Due.NONE);
        x.tune(1, 0, 10, 0, 5, 1);
        Due.is("a FINDING alone", x.forces(), Due.NONE);
    }

    private static void latestForces() {
        Due.says("Promise 23", "The forces of the latest tune()");
        HummingDisc x = withForces();
        x.tune(1, 0, 10, 0, 0, 1);
        Due.is("300", x.forces(), 3);
        x.tune(1, 0, 10, 0, 2, 3);
        Due.is("200, 400, 500", x.forces(), 245);
        Due.is("another BOX", Due.read(x, BOX), 3);
        x.begin(0, 0, 0, 1);
        Due.is("it stays", x.forces(), 245);
    }

    private static void forcesStayBehindRefusals() {
        Due.says("Promise 23", "that was not BAD, found:");
        HummingDisc x = withForces();
        x.tune(1, 0, 10, 0, 2, 3);
        Due.is("of a bad ITEM", x.tune(1, 0, 10, 0, 1, 1), Due.BAD);
        Due.is("of a bad k", x.tune(1, 0, 10, 0, 0, 0), Due.BAD);
        Due.is("of a place beyond", x.tune(1, 0, 10, 0, 4, 2), Due.PLACE);
        Due.is("of a missing ROW", x.tune(1, 0, 10, 1, 0, 1), Due.NULL);
        Due.is("they leave it", x.forces(), 245);
    }

    private static void forcesAsANumber() {
        Due.says("Promise 23", "as a number;");
        HummingDisc x = withForces();
        x.tune(1, 0, 10, 0, 0, 1);
        Due.is("of one", x.forces(), 3);
        x.tune(1, 0, 10, 0, 3, 2);
        Due.is("of two", x.forces(), 45);
    }
}
