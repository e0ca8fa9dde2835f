/** What the tests share: a call's answer against the one that is due, and texts fed to a tape. */
final class Due {
    static final int NONE = -1000000, BAD = -1000001, STATE = -1000002, FULL = -1000003;
    static final int NULL = -1000011, PLACE = -1000012, KIND = -1000013, SIZE = -1000014, STORE = -1000015;
    static final int LEAST = Integer.MIN_VALUE, GREATEST = Integer.MAX_VALUE;

    private static String sentence = "";
    private static int wrong = 0;

    private Due() { }

    /** What follows tests this: a sentence (or a part of one) of a section of DOC.md, word for word (see SentencesTest). */
    static void says(String section, String words) {
        sentence = section + ", '" + words + "': ";
    }

    static void is(String call, long got, long want) {
        if (got == want) return;
        wrong++;
        if (wrong <= 50) System.out.println(sentence + call + " answered " + got + ", due is " + want);
    }

    /** The answers of several calls of one sort, in a row. */
    static void are(String calls, int[] got, int... want) {
        is(calls + ": how many", got.length, want.length);
        for (int i = 0; i < Math.min(got.length, want.length); i++) is(calls + ", number " + i, got[i], want[i]);
    }

    static void areAlike(String what, String got, String want) {
        if (got.equals(want)) return;
        is(what + " (" + got + ", due is " + want + ")", 1, 0);
    }

    static void end() {
        if (wrong == 0) return;
        System.out.println(wrong + " answers are not as due");
        System.exit(1);
    }

    static int feed(HummingDisc x, String text) {
        int length = x.count(5);
        for (int i = 0; i < text.length(); i += 8) {
            int n = Math.min(8, text.length() - i);
            long w = 0;
            for (int k = 0; k < n; k++) w = w << 8 | text.charAt(i + k);
            length = x.feed(w, n);
        }
        return length;
    }

    static int read(HummingDisc x, String text) {
        feed(x, text);
        return x.box();
    }

    /** A new object, with the BOX of a text that has no FAULT. */
    static HummingDisc of(String text) {
        HummingDisc x = new HummingDisc();
        int discs = read(x, text);
        if (discs < 1) is("box() of: " + text, discs, 1);
        return x;
    }

    /** A new ROW of these ITEMS. */
    static void row(HummingDisc x, int row, int lane, int... items) {
        is("row()", x.row(row, lane, items.length), items.length);
        for (int i = 0; i < items.length; i++) is("set()", x.set(row, i, items[i]), items[i]);
    }

    /** An ITEM (0 to 32767), read by way of ROW 7 and sound(): DISC 0 of the BOX has one tooth, or there is no BOX. */
    static int item(HummingDisc x, int row, int lane, int i) {
        if (x.count(1) == 0) read(x, "disc 1 0 1; thread 1 1 1 1; hand;");
        is("row(7)", x.row(7, lane, 2), 2);
        is("copy() to ROW 7", x.copy(row, i, 7, 0, 1), 1);
        return x.sound(0, 7, 0, 2, 1);
    }

    /** Some TICKS by these told F, in ROW 7: how many went. */
    static int pulls(HummingDisc x, int... forces) {
        row(x, 7, 0, forces);
        return x.pulls(7, 0, forces.length);
    }

    static int[] now(HummingDisc x) {
        int[] all = new int[9];
        for (int what = 0; what < 9; what++) all[what] = x.now(what);
        return all;
    }

    /** TURNS and PACE behind some more TICKS by the HAND (0: as they are). */
    static int[] turnsAndPace(HummingDisc x, int ticks) {
        if (ticks > 0) is("go(" + ticks + ")", x.go(ticks), ticks);
        return new int[] {x.now(0), x.now(1)};
    }

    static int[] trace(HummingDisc x) {
        int n = 0;
        while (n < 16 && x.trace(n) != NONE) n++;
        int[] all = new int[n];
        for (int i = 0; i < n; i++) all[i] = x.trace(i);
        return all;
    }

    /** All that can be asked without changing anything, but for status(). */
    static String state(HummingDisc x) {
        StringBuilder s = new StringBuilder("now");
        for (int what = 0; what < 9; what++) s.append(' ').append(x.now(what));
        s.append(" count");
        for (int what = 0; what < 6; what++) s.append(' ').append(x.count(what));
        s.append(" trace");
        for (int i : trace(x)) s.append(' ').append(i);
        s.append(" short");
        for (int thread = 0; thread < 4; thread++) s.append(' ').append(x.shorter(thread, 50, 0));
        s.append(" wobble");
        for (int disc = 0; disc < 4; disc++) s.append(' ').append(x.wobble(disc, 1));
        return s.append(" kind ").append(x.kind()).append(" forces ").append(x.forces())
            .append(" fault ").append(x.fault()).toString();
    }
}
