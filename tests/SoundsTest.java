/** Promises 21 to 23: sound, tune, forces. */
public final class SoundsTest {
    private static final String BOX = "disc 10 0 1; disc 10 0 10; disc 10 0 7; thread 1 1 10 999; thread 1 1 10 5; hand;";

    public static void main(String[] args) {
        pullsAndPace();
        wrongSounds();
        tune();
        wrongTunes();
        forces();
        Due.end();
    }

    private static int heard(int disc, int what, int... tones) {
        HummingDisc x = Due.of(BOX);
        Due.row(x, 3, 1, tones);
        return x.sound(disc, 3, 0, tones.length, what);
    }

    private static void pullsAndPace() {
        Due.is("rising alone", heard(0, 0, 1, 2, 3), 0);
        Due.is("falling alone", heard(0, 0, 3, 2, 1), 0);
        Due.is("once", heard(0, 0, 3, 2, 3), 1);
        Due.is("once, rising on", heard(0, 0, 3, 2, 3, 4, 5), 1);
        Due.is("alike ones are passed over", heard(0, 0, 3, 3, 2, 2, 2, 3, 3), 1);
        Due.is("alike ones in falling and in rising", heard(0, 0, 9, 5, 5, 1, 1, 4, 4, 6, 2, 2, 3), 2);
        Due.is("none but alike ones", heard(0, 0, 5, 5, 5, 5), 0);
        Due.is("twice", heard(0, 0, 0, 5, 0, 5, 0, 5), 2);
        Due.is("alike by teeth", heard(1, 0, 39, 31, 39, 30), 0);
        Due.is("not alike by teeth", heard(1, 0, 30, 29, 30), 1);
        Due.is("the greatest", heard(0, 1, 5, 32767, 6), 32767);
        Due.is("the greatest is cut", heard(2, 1, 0, 27, 6), 3);
        Due.is("of nothing", heard(2, 1, 0, 0), 0);
        HummingDisc x = Due.of(BOX);
        Due.row(x, 0, 1, 9, 1, 5, 1, 9);
        Due.is("from the midst", x.sound(0, 0, 1, 3, 0), 0);
        Due.is("the greatest from the midst", x.sound(0, 0, 1, 3, 1), 5);
        Due.row(x, 1, 1, new int[40]);
        Due.is("forty", x.sound(0, 1, 0, 40, 1), 0);
    }

    private static void wrongSounds() {
        HummingDisc x = Due.of(BOX);
        Due.row(x, 0, 2, 1, 32767, 32768, 5, -1);
        Due.is("DISC 3", x.sound(3, 0, 0, 2, 0), Due.BAD);
        Due.is("DISC -1", x.sound(-1, 0, 0, 2, 0), Due.BAD);
        Due.is("ROW 8", x.sound(0, 8, 0, 2, 0), Due.BAD);
        Due.is("n of 1", x.sound(0, 0, 0, 1, 0), Due.BAD);
        Due.is("n of 41", x.sound(0, 0, 0, 41, 0), Due.BAD);
        Due.is("what of 2, ahead of NULL", x.sound(0, 1, 0, 2, 2), Due.BAD);
        Due.is("what of -1", x.sound(0, 0, 0, 2, -1), Due.BAD);
        Due.is("a missing ROW", x.sound(0, 1, 0, 2, 0), Due.NULL);
        Due.is("beyond the end, ahead of a bad ITEM", x.sound(0, 0, 1, 5, 0), Due.PLACE);
        Due.is("i below 0", x.sound(0, 0, -1, 2, 0), Due.PLACE);
        Due.is("a tone of 32768", x.sound(0, 0, 1, 2, 0), Due.BAD);
        Due.is("a tone of -1", x.sound(0, 0, 3, 2, 0), Due.BAD);
        Due.is("tones as told", x.sound(0, 0, 0, 2, 0), 0);
        Due.is("without a BOX", new HummingDisc().sound(0, 0, 0, 2, 0), Due.BAD);
    }

    private static void tunes(int disc, int thread, int t0, int[] tones, int off, int forces) {
        HummingDisc x = Due.of(BOX);
        Due.row(x, 2, 2, tones);
        Due.is("tune()", x.tune(disc, thread, t0, 2, 0, tones.length), off);
        Due.is("forces()", x.forces(), forces);
    }

    private static void tune() {
        // From 10, at MOST, by 10 times f: a pace of 10 f, through 0 at once, to MOST the other way, and so on.
        tunes(1, 0, 10, new int[] {300}, 0, 3);
        tunes(1, 0, 10, new int[] {250}, 50, 2);
        tunes(1, 0, 10, new int[] {251}, 49, 3);
        tunes(1, 0, 10, new int[] {32767}, 31867, 9);
        tunes(1, 0, 10, new int[] {0}, 0, 0);
        tunes(1, 0, 10, new int[] {100, 300}, 0, 13);
        tunes(1, 0, 10, new int[] {100, 0}, 0, 10);
        tunes(1, 0, 10, new int[] {0, 300}, 100, 13);
        tunes(1, 0, 10, new int[] {0, 50}, 50, 0);
        tunes(1, 0, 10, new int[] {100, 200, 300}, 0, 123);
        tunes(1, 0, 10, new int[] {900, 900, 900}, 0, 999);
        tunes(0, 0, 10, new int[] {0, 0, 7}, 7, 0);
        tunes(0, 0, 10, new int[] {32767, 32767, 32767}, 98031, 999);
        // SNAPPED: the pace of that TICK is heard, none behind it.
        tunes(1, 1, 10, new int[] {200, 300}, 300, 20);
        // By 10 from 770 it is through 0 in the TICKS 39 and 98, and at MOST in 59 and 118: the third force has two left.
        HummingDisc x = Due.of("disc 100 0 1; thread 1 1 770 999; hand;");
        Due.row(x, 0, 0, 39, 39, 6);
        Due.is("tune() of 120 TICKS", x.tune(0, 0, 770, 0, 0, 3), 0);
        Due.is("forces()", x.forces(), 113);
        // From 1 nothing moves.
        tunes(0, 0, 1, new int[] {5, 6}, 11, 0);
    }

    private static void wrongTunes() {
        HummingDisc x = Due.of(BOX);
        Due.row(x, 0, 2, 1, 2, 32768, -1);
        Due.is("DISC 3", x.tune(3, 0, 1, 0, 0, 1), Due.BAD);
        Due.is("THREAD 2", x.tune(0, 2, 1, 0, 0, 1), Due.BAD);
        Due.is("t0 of 0", x.tune(0, 0, 0, 0, 0, 1), Due.BAD);
        Due.is("t0 beyond MOST", x.tune(0, 0, 11, 0, 0, 1), Due.BAD);
        Due.is("ROW -1", x.tune(0, 0, 1, -1, 0, 1), Due.BAD);
        Due.is("k of 0", x.tune(0, 0, 1, 0, 0, 0), Due.BAD);
        Due.is("k of 4, ahead of NULL", x.tune(0, 0, 1, 1, 0, 4), Due.BAD);
        Due.is("a missing ROW", x.tune(0, 0, 1, 1, 0, 1), Due.NULL);
        Due.is("beyond the end, ahead of a bad ITEM", x.tune(0, 0, 1, 0, 2, 3), Due.PLACE);
        Due.is("i below 0", x.tune(0, 0, 1, 0, -1, 1), Due.PLACE);
        Due.is("a tone of 32768", x.tune(0, 0, 1, 0, 0, 3), Due.BAD);
        Due.is("a tone of -1", x.tune(0, 0, 1, 0, 3, 1), Due.BAD);
        Due.is("none of them told forces", x.forces(), Due.NONE);
        Due.is("without a BOX", new HummingDisc().tune(0, 0, 1, 0, 0, 1), Due.BAD);
    }

    private static void forces() {
        HummingDisc x = Due.of(BOX);
        Due.row(x, 0, 1, 300, -1);
        Due.is("tune()", x.tune(1, 0, 10, 0, 0, 1), 0);
        Due.is("found", x.tune(1, 0, 10, 0, 2, 1), Due.PLACE);
        Due.is("BAD", x.tune(1, 0, 10, 0, 1, 1), Due.BAD);
        Due.is("the latest that was neither", x.forces(), 3);
        Due.is("a new BOX", Due.read(x, BOX), 3);
        Due.is("it stays", x.forces(), 3);
    }
}
