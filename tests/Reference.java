import java.math.BigInteger;
import java.util.ArrayList;
import java.util.List;
import java.util.regex.Matcher;
import java.util.regex.Pattern;

/** The document's boxes, runs and foretold numbers once more, in the slowest and plainest way, to compare with. */
final class Reference {
    static final int NONE = -1000000;

    interface Pull {
        int of(List<Tick> gone, int t, int v);
    }

    /** A TICK that went: what was ahead of it and behind it. */
    static final class Tick {
        int ahead, behind, paceAhead, pace, speed, f, throughAhead, through;
        boolean unwound, snapped;
    }

    int[][] discs, threads;
    /** A HAND's rules: WHAT (0 .. 3), 1 for above, NUMBER, F. */
    int[][][] hands;
    int fault, place;

    // ---- the text

    private static final Pattern TOKENS = Pattern.compile("[ \n]*(?:([a-z]+)|(-?[0-9]+)|(;)|$|(.))", Pattern.DOTALL);

    /** Whether the text is read; else fault and place tell why not. */
    boolean read(String text) {
        List<String> tokens = new ArrayList<>();
        List<Integer> places = new ArrayList<>();
        Matcher m = TOKENS.matcher(text);
        for (int at = 0; m.find(at) && m.start() == at; at = m.end()) {
            int g = 1;
            while (g <= 4 && m.group(g) == null) g++;
            if (g > 4) break;
            tokens.add(g == 4 ? "?" : m.group(g));
            places.add(m.start(g));
        }
        tokens.add("end");
        places.add(text.length());
        List<int[]> d = new ArrayList<>(), t = new ArrayList<>();
        List<int[][]> h = new ArrayList<>();
        int why = 0, i = 0;
        int part = 0;
        String[] expect = {"disc"};
        // A small machine of states: which tokens may come, and what they are.
        List<int[]> rules = new ArrayList<>();
        List<Integer> numbers = new ArrayList<>();
        String inside = "";
        int step = 0;
        int[] rule = new int[4];
        for (; why == 0; i++) {
            String token = tokens.get(i);
            if (inside.isEmpty()) {
                boolean end = token.equals("end") && i == tokens.size() - 1 && part == 3;
                if (end) break;
                if (token.equals("disc") && part <= 1) why = d.size() == 4 ? 3 : 0;
                else if (token.equals("thread") && (part == 1 || part == 2)) why = t.size() == 4 ? 3 : 0;
                else if (token.equals("hand") && (part == 2 || part == 3)) why = h.size() == 4 ? 3 : 0;
                else if (token.equals("when") && part == 3) why = rules.size() == 6 ? 3 : 0;
                else why = 1;
                if (why == 0 && part == 3 && token.equals("hand")) closeHand(h, rules);
                if (token.equals("hand") && why == 0) h.add(new int[0][]);
                inside = token;
                step = 0;
                numbers.clear();
                rule = new int[4];
                if (why == 0 && !token.equals("when")) part = token.equals("disc") ? 1 : token.equals("thread") ? 2 : 3;
                continue;
            }
            boolean last = false;
            int[][] limits = {{}};
            if (inside.equals("disc")) limits = new int[][] {{1, 999}, {0, 99}, {1, 60}};
            if (inside.equals("thread"))
                limits = new int[][] {{1, 99}, {1, 400}, {numbers.size() > 1 ? numbers.get(1) : 0, 800}, {1, 999}};
            if (inside.equals("disc") || inside.equals("thread")) {
                if (step < limits.length) why = addNumber(token, limits[step], numbers);
                else last = true;
            } else if (inside.equals("hand")) {
                last = true;
            } else {
                switch (step) {
                    case 0: rule[0] = List.of("wound", "pace", "give", "tick").indexOf(token); why = rule[0] < 0 ? 1 : 0; break;
                    case 1: rule[1] = List.of("below", "above").indexOf(token); why = rule[1] < 0 ? 1 : 0; break;
                    case 2: why = addNumber(token, new int[] {-999, 9999}, numbers); break;
                    case 3: why = token.equals("pull") ? 0 : 1; break;
                    case 4: why = addNumber(token, new int[] {0, 99}, numbers); break;
                    default: last = true;
                }
            }
            step++;
            if (!last) continue;
            if (!token.equals(";")) why = 1;
            if (why != 0) continue;
            int[] all = numbers.stream().mapToInt(Integer::intValue).toArray();
            if (inside.equals("disc")) d.add(all);
            if (inside.equals("thread")) t.add(all);
            if (inside.equals("when")) rules.add(new int[] {rule[0], rule[1], all[0], all[1]});
            inside = "";
        }
        if (why != 0) {
            fault = why;
            place = places.get(i - 1);
            return false;
        }
        closeHand(h, rules);
        discs = d.toArray(new int[0][]);
        threads = t.toArray(new int[0][]);
        hands = h.toArray(new int[0][][]);
        return true;
    }

    private static void closeHand(List<int[][]> hands, List<int[]> rules) {
        if (!hands.isEmpty()) hands.set(hands.size() - 1, rules.toArray(new int[0][]));
        rules.clear();
    }

    private static int addNumber(String token, int[] limits, List<Integer> numbers) {
        if (!token.matches("-?[0-9]{1,4}")) return 1;
        int n = Integer.parseInt(token);
        numbers.add(n);
        return n < limits[0] || n > limits[1] ? 2 : 0;
    }

    // ---- runs

    static int shorter(int[] thread, int w) {
        int sum = 0;
        for (int k = 1; k <= w; k++) sum += slope(thread, k);
        return sum;
    }

    static int slope(int[] thread, int w) {
        int thick = thread[0], twist = thread[1];
        if (w == 0) return 0;
        if (w > twist) return 2 * slope(thread, twist) + 1;
        return w * w * thick / 1000 - (w - 1) * (w - 1) * thick / 1000;
    }

    static Tick tick(int[] disc, int[] thread, List<Tick> gone, int t, int v, Pull pull, int lamp) {
        Tick k = new Tick();
        k.ahead = t;
        k.paceAhead = v;
        k.unwound = v == 0 || Integer.signum(v) * Integer.signum(t) < 0;
        k.throughAhead = gone.isEmpty() ? 0 : gone.get(gone.size() - 1).through;
        k.f = pull.of(gone, t, v);
        BigInteger push = BigInteger.valueOf(k.f).multiply(BigInteger.valueOf(slope(thread, Math.abs(t))))
            .multiply(BigInteger.TEN).divide(BigInteger.valueOf(disc[0]));
        int pushed = v - Integer.signum(t) * push.intValueExact();
        BigInteger square = BigInteger.valueOf(pushed).pow(2).divide(BigInteger.valueOf(1000));
        BigInteger less = square.multiply(BigInteger.valueOf(disc[1])).divide(BigInteger.valueOf(100));
        BigInteger left = BigInteger.valueOf(Math.abs(pushed)).subtract(less).max(BigInteger.ZERO);
        k.speed = Math.max(0, left.intValueExact() - lamp);
        k.pace = Integer.signum(pushed) * k.speed;
        k.behind = t + k.pace;
        if (Math.abs(k.behind) > thread[2]) {
            k.behind = Integer.signum(k.behind) * thread[2];
            k.snapped = k.speed > thread[3];
            k.pace = 0;
        }
        boolean through = t != 0 && Integer.signum(k.behind) != Integer.signum(t);
        k.through = k.throughAhead + (through ? 1 : 0);
        return k;
    }

    static List<Tick> run(int[] disc, int[] thread, int t0, int n, Pull pull, int lamp) {
        List<Tick> gone = new ArrayList<>();
        int t = t0, v = 0;
        for (int i = 0; i < n; i++) {
            Tick k = tick(disc, thread, gone, t, v, pull, lamp);
            gone.add(k);
            t = k.behind;
            v = k.pace;
            if (k.snapped) break;
        }
        return gone;
    }

    static boolean unwinds(int t, int v) {
        return v == 0 || v * t < 0;
    }

    static int felt(int[] thread, int what, List<Tick> gone, int t, int v) {
        if (what == 0) return Math.abs(t);
        if (what == 1) return Math.abs(v);
        if (what == 3) return gone.size();
        if (gone.isEmpty()) return 0;
        return shorter(thread, Math.abs(t)) - shorter(thread, Math.abs(gone.get(gone.size() - 1).ahead));
    }

    int handPull(int[] thread, int hand, List<Tick> gone, int t, int v) {
        for (int[] rule : hands[hand]) {
            int felt = felt(thread, rule[0], gone, t, v);
            if (rule[1] == 1 ? felt > rule[2] : felt < rule[2]) return rule[3];
        }
        return 0;
    }

    // ---- foretold

    private static Pull steady(int f) {
        return (gone, t, v) -> unwinds(t, v) ? f : 0;
    }

    private static int most(List<Tick> gone) {
        return gone.stream().mapToInt(k -> k.speed).max().orElse(0);
    }

    private static boolean snaps(List<Tick> gone) {
        return gone.get(gone.size() - 1).snapped;
    }

    int greatest(int d, int h, int t0, int f, int n, int what) {
        List<Tick> gone = run(discs[d], threads[h], t0, n, steady(f), 0);
        return what == 0 ? most(gone) : snaps(gone) ? 1 : 0;
    }

    int best(int t0, int f, int n) {
        int best = NONE, most = -1;
        for (int d = 0; d < discs.length; d++) {
            for (int h = 0; h < threads.length; h++) {
                List<Tick> gone = run(discs[d], threads[h], Math.min(t0, threads[h][2]), n, steady(f), 0);
                if (snaps(gone) || most(gone) <= most) continue;
                most = most(gone);
                best = 8 * d + h;
            }
        }
        return best;
    }

    int from(int d, int h, int t0, int f, int n) {
        int best = NONE, most = -1;
        for (int w = 0; w <= t0; w++) {
            int from = w;
            List<Tick> gone = run(discs[d], threads[h], t0, n,
                (g, t, v) -> unwinds(t, v) && Math.abs(t) >= from ? f : 0, 0);
            if (snaps(gone) || most(gone) < most) continue;
            most = most(gone);
            best = w;
        }
        return best;
    }

    int late(int d, int h, int t0, int f, int n) {
        for (int l = 0; l <= 30; l++) {
            int late = l;
            List<Tick> gone = run(discs[d], threads[h], t0, n, (g, t, v) -> {
                if (!unwinds(t, v)) return 0;
                int row = 0;
                while (row < g.size() && g.get(g.size() - 1 - row).unwound) row++;
                return row < late ? 0 : f;
            }, 0);
            int most = threads[h][2];
            boolean grows = gone.stream().anyMatch(k -> Math.abs(k.behind) > t0
                || Math.abs(k.behind) == most && Math.abs(k.ahead) < most);
            if (!grows) return l == 0 ? NONE : l - 1;
        }
        return 30;
    }

    int parts(int d, int h, int t0, int f, int clear) {
        BigInteger sum = BigInteger.ZERO;
        int ticks = 0;
        for (Tick k : run(discs[d], threads[h], t0, 500, steady(f), 0)) {
            ticks++;
            sum = sum.add(BigInteger.valueOf(k.speed).pow(2));
            if (sum.compareTo(BigInteger.valueOf(clear).multiply(BigInteger.TEN)) >= 0) return ticks;
        }
        return NONE;
    }

    int lamp(int d, int h, int t0, int f, int n) {
        int best = NONE;
        for (int p = 0; p <= 50; p++) {
            List<Tick> gone = run(discs[d], threads[h], t0, n, steady(f), p);
            if (gone.get(gone.size() - 1).through >= 3) best = p;
        }
        return best;
    }

    int wobble(int d, int o) {
        int v = 0;
        while (o * (v + 1) * (v + 1) / 100 <= discs[d][0]) v++;
        return v;
    }

    /** How far off at least, and by which forces. */
    int[] tune(int d, int h, int t0, int[] tones) {
        int k = tones.length, all = (int) Math.pow(10, k);
        int[] best = {Integer.MAX_VALUE, NONE};
        for (int forces = 0; forces < all; forces++) {
            String digits = String.format("%0" + k + "d", forces);
            List<Tick> gone = run(discs[d], threads[h], t0, 120, (g, t, v) -> {
                int j = g.isEmpty() ? 0 : g.get(g.size() - 1).through;
                return unwinds(t, v) && j < k ? 10 * (digits.charAt(j) - '0') : 0;
            }, 0);
            int off = 0;
            for (int j = 0; j < k; j++) {
                int at = j;
                int loud = gone.stream().filter(g -> g.unwound && g.throughAhead == at).mapToInt(g -> g.speed).max().orElse(0);
                off += Math.abs(loud * discs[d][2] - tones[j]);
            }
            if (off < best[0]) best = new int[] {off, forces};
        }
        return best;
    }

    int sound(int d, int[] tones, int what) {
        List<Integer> paces = new ArrayList<>();
        int greatest = 0;
        for (int tone : tones) {
            int v = tone / discs[d][2];
            greatest = Math.max(greatest, v);
            if (paces.isEmpty() || paces.get(paces.size() - 1) != v) paces.add(v);
        }
        int pulls = 0;
        for (int i = 1; i + 1 < paces.size(); i++) {
            if (paces.get(i) < paces.get(i - 1) && paces.get(i) < paces.get(i + 1)) pulls++;
        }
        return what == 0 ? pulls : greatest;
    }
}
