import java.util.ArrayList;
import java.util.List;
import java.util.Random;

/** Promises 7 to 23 and 26: texts, runs and foretold numbers by chance (always the same), as Reference tells them. */
public final class ReferenceTest {
    private static final Random CHANCE = new Random(20261118);

    public static void main(String[] args) {
        for (int i = 0; i < 1500; i++) spoiltText();
        for (int i = 0; i < 120; i++) boxOf(text());
        Due.end();
    }

    private static int any(int least, int most) {
        return least + CHANCE.nextInt(most - least + 1);
    }

    /** Small numbers oftener than great ones. */
    private static int low(int least, int most) {
        return CHANCE.nextInt(3) == 0 ? any(least, most) : any(least, Math.min(most, least + any(0, 30)));
    }

    private static String text() {
        StringBuilder s = new StringBuilder();
        for (int i = any(1, 2); i > 0; i--) {
            s.append("disc ").append(low(1, 999)).append(' ').append(low(0, 99)).append(' ').append(any(1, 60)).append(';');
        }
        for (int i = any(1, 2); i > 0; i--) {
            int twist = low(1, 400);
            s.append("thread ").append(any(1, 99)).append(' ').append(twist).append(' ');
            s.append(any(twist, 800)).append(' ').append(low(1, 999)).append(';');
        }
        for (int i = any(1, 2); i > 0; i--) {
            s.append("hand;");
            for (int r = any(0, 4); r > 0; r--) s.append(rule());
        }
        return s.toString();
    }

    private static String rule() {
        String what = List.of("wound", "pace", "give", "tick").get(any(0, 3));
        String side = CHANCE.nextBoolean() ? "below " : "above ";
        return "when " + what + " " + side + (low(0, 200) - 20) + " pull " + any(0, 99) + ";";
    }

    private static void spoiltText() {
        StringBuilder s = new StringBuilder(text());
        String[] bits = {" ", ";", "-", "0", "9", "a", "\n", "disc", "disc 1 0 1;", "thread ", "hand;", "when ", "A", "\u00ff",
            "thread 1 1 1 1;", "when pace above 1 pull 1;", "when pace above 1 pull 1;when tick below 3 pull 0;", "1234", "12345"};
        for (int k = any(0, 3); k > 0; k--) {
            int at = any(0, s.length());
            if (CHANCE.nextInt(3) == 0) s.delete(at, Math.min(s.length(), at + any(1, 3)));
            else s.insert(at, bits[any(0, bits.length - 1)]);
        }
        if (s.length() > 500) s.setLength(500);
        Reference r = new Reference();
        boolean read = r.read(s.toString());
        HummingDisc x = new HummingDisc();
        int got = Due.read(x, s.toString());
        Due.is("box() of: " + s, got, read ? r.discs.length : -1000100 - r.place);
        Due.is("fault() of: " + s, x.fault(), r.fault);
    }

    private static void boxOf(String text) {
        if (text.length() > 500) return;
        Reference r = new Reference();
        if (!r.read(text)) Due.is("Reference of: " + text, r.fault, 0);
        HummingDisc x = Due.of(text);
        for (int d = 0; d < r.discs.length; d++) {
            for (int h = 0; h < r.threads.length; h++) foretold(x, r, d, h, text);
            Due.is("wobble() of: " + text, x.wobble(d, 7 * d + 1), r.wobble(d, 7 * d + 1));
        }
        for (int k = 0; k < 6; k++) {
            int t0 = any(1, 800), f = low(0, 99), n = any(1, 300);
            Due.is("best(" + t0 + ", " + f + ", " + n + ") of: " + text, x.best(t0, f, n), r.best(t0, f, n));
        }
        shorter(x, r, text);
        runOf(x, r, text);
        sound(x, r, text);
    }

    private static void foretold(HummingDisc x, Reference r, int d, int h, String text) {
        int most = r.threads[h][2];
        for (int k = 0; k < 2; k++) {
            int t0 = any(1, most), f = low(0, 99), n = CHANCE.nextBoolean() ? any(1, 300) : any(1, 30);
            String of = "(" + d + ", " + h + ", " + t0 + ", " + f + ", " + n + ") of: " + text;
            Due.is("greatest" + of, x.greatest(d, h, t0, f, n, 0), r.greatest(d, h, t0, f, n, 0));
            Due.is("greatest, snaps" + of, x.greatest(d, h, t0, f, n, 1), r.greatest(d, h, t0, f, n, 1));
            Due.is("late" + of, x.late(d, h, t0, f, n), r.late(d, h, t0, f, n));
            Due.is("lamp" + of, x.lamp(d, h, t0, f, n), r.lamp(d, h, t0, f, n));
            int clear = low(1, 999999);
            Due.is("parts by " + clear + of, x.parts(d, h, t0, f, clear), r.parts(d, h, t0, f, clear));
            if (t0 * n < 30000) Due.is("from" + of, x.from(d, h, t0, f, n), r.from(d, h, t0, f, n));
        }
        int[] tones = new int[any(1, CHANCE.nextInt(4) == 0 ? 3 : 2)];
        for (int j = 0; j < tones.length; j++) tones[j] = low(0, 32767);
        int t0 = any(1, most);
        Due.row(x, 0, 2, tones);
        int[] due = r.tune(d, h, t0, tones);
        Due.is("tune() of: " + text, x.tune(d, h, t0, 0, 0, tones.length), due[0]);
        Due.is("forces() of: " + text, x.forces(), due[1]);
    }

    private static void shorter(HummingDisc x, Reference r, String text) {
        for (int h = 0; h < r.threads.length; h++) {
            for (int k = 0; k < 20; k++) {
                int w = any(0, 800);
                Due.is("SHORT of " + w + ": " + text, x.shorter(h, w, 0), Reference.shorter(r.threads[h], w));
                Due.is("SLOPE of " + w + ": " + text, x.shorter(h, w, 1), Reference.slope(r.threads[h], w));
            }
        }
    }

    private static void runOf(HummingDisc x, Reference r, String text) {
        int d = any(0, r.discs.length - 1), h = any(0, r.threads.length - 1), hand = any(0, r.hands.length - 1);
        int[] disc = r.discs[d], thread = r.threads[h];
        int t = any(-thread[2], thread[2]), v = 0, most = 0;
        x.begin(d, h, hand, t);
        List<Reference.Tick> gone = new ArrayList<>();
        boolean snapped = false;
        for (int i = 0; i < 60; i++) {
            boolean told = CHANCE.nextInt(4) == 0;
            int f = any(0, 99);
            Reference.Pull pull = told ? (g, a, b) -> f : (g, a, b) -> r.handPull(thread, hand, g, a, b);
            if (told) Due.row(x, 1, 0, f);
            Due.is("a TICK of: " + text, told ? x.pulls(1, 0, 1) : x.go(1), snapped ? 0 : 1);
            if (!snapped) {
                Reference.Tick k = Reference.tick(disc, thread, gone, t, v, pull, 0);
                gone.add(k);
                t = k.behind;
                v = k.pace;
                snapped = k.snapped;
                most = Math.max(most, k.speed);
            }
            Reference.Tick k = gone.get(gone.size() - 1);
            Due.are("now() of: " + text, Due.now(x), t, v, gone.size(), snapped ? 1 : 0,
                Reference.shorter(thread, Math.abs(t)), k.f, most, Math.abs(v) * disc[2], k.through);
            int kind = snapped ? 5 : v == 0 ? 3 : (long) v * t < 0 ? 1 : Math.abs(t) > thread[1] ? 4 : 2;
            Due.is("kind() of: " + text, x.kind(), kind);
        }
    }

    private static void sound(HummingDisc x, Reference r, String text) {
        int[] tones = new int[any(2, 40)];
        for (int i = 0; i < tones.length; i++) tones[i] = any(0, 300);
        Due.row(x, 2, 1, tones);
        for (int what = 0; what < 2; what++) {
            Due.is("sound() of: " + text, x.sound(0, 2, 0, tones.length, what), r.sound(0, tones, what));
        }
    }
}
