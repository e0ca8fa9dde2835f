/** What the tests share: a call's answer against the one that is due, and texts fed to a tape. */
final class Due {
    static final int NONE = -1000000, BAD = -1000001, STATE = -1000002, FULL = -1000003;
    static final int NULL = -1000011, PLACE = -1000012, KIND = -1000013, SIZE = -1000014, STORE = -1000015;

    private static int wrong = 0;

    private Due() { }

    static void is(String call, long got, long want) {
        if (got == want) return;
        wrong++;
        if (wrong <= 50) System.out.println(call + " answered " + got + ", due is " + want);
    }

    /** The answers of several calls of one sort, in a row. */
    static void are(String calls, int[] got, int... want) {
        is(calls + ": how many", got.length, want.length);
        for (int i = 0; i < Math.min(got.length, want.length); i++) is(calls + ", number " + i, got[i], want[i]);
    }

    static void end() {
        if (wrong == 0) return;
        System.out.println(wrong + " answers are not as due");
        System.exit(1);
    }

    static void feed(HummingDisc x, String text) {
        for (int i = 0; i < text.length(); i += 8) {
            int n = Math.min(8, text.length() - i);
            long w = 0;
            for (int k = 0; k < n; k++) w = w << 8 | text.charAt(i + k);
            x.feed(w, n);
        }
    }

    static int read(HummingDisc x, String text) {
        feed(x, text);
        return x.box();
    }

    /** A new object, with the BOX of a text that has no FAULT. */
    static HummingDisc of(String text) {
        HummingDisc x = new HummingDisc();
        int discs = read(x, text);
        if (discs < 1) is("box() of: " + text, discs, 1);
        return x;
    }

    static void row(HummingDisc x, int row, int lane, int... items) {
        is("row()", x.row(row, lane, items.length), items.length);
        for (int i = 0; i < items.length; i++) is("set()", x.set(row, i, items[i]), items[i]);
    }

    static int[] now(HummingDisc x) {
        int[] all = new int[9];
        for (int what = 0; what < 9; what++) all[what] = x.now(what);
        return all;
    }

    static int[] trace(HummingDisc x) {
        int n = 0;
        while (n < 16 && x.trace(n) != NONE) n++;
        int[] all = new int[n];
        for (int i = 0; i < n; i++) all[i] = x.trace(i);
        return all;
    }
}
