import java.util.Random;

/** All promises: no call throws, whatever it is given; and what is refused, or found, changes nothing but status(). */
public final class WildTest {
    private static final Random CHANCE = new Random(512);
    private static final String BOX = "disc 10 0 3; disc 999 99 60; thread 1 1 20 5; thread 99 400 800 999; hand;"
        + "when give below 0 pull 9; when tick above 3 pull 99; hand;";
    private static final int[] WILD = {Integer.MIN_VALUE, Integer.MIN_VALUE + 1, -1000, -1, 0, 1, 2, 3, 7, 8, 9, 40, 41,
        99, 100, 300, 301, 800, 801, 32768, 999999, 1000000, Integer.MAX_VALUE - 1, Integer.MAX_VALUE};
    private static final int CALLS = 27;

    public static void main(String[] args) {
        for (int i = 0; i < 2000; i++) manyCalls();
        for (int i = 0; i < 6000; i++) refusedCall();
        Due.end();
    }

    private static int any() {
        return CHANCE.nextInt(3) == 0 ? WILD[CHANCE.nextInt(WILD.length)] : CHANCE.nextInt(8);
    }

    private static void manyCalls() {
        HummingDisc x = CHANCE.nextBoolean() ? new HummingDisc() : Due.of(BOX);
        for (int i = 0; i < 150; i++) answer(x, CHANCE.nextInt(CALLS));
    }

    private static int answer(HummingDisc x, int call) {
        try {
            return call < 14 ? upToNow(x, call) : fromGreatest(x, call);
        } catch (RuntimeException | StackOverflowError e) {
            Due.is("call " + call + " threw " + e + ": ", 1, 0);
            return 0;
        }
    }

    private static int upToNow(HummingDisc x, int call) {
        switch (call) {
            case 0: return x.row(any(), any(), any());
            case 1: return x.set(any(), any(), any());
            case 2: return x.copy(any(), any(), any(), any(), any());
            case 3: return x.drop(any());
            case 4: return x.feed(CHANCE.nextLong(), any());
            case 5: return x.box();
            case 6: return x.fault();
            case 7: return x.shorter(any(), any(), any());
            case 8: return x.begin(any(), any(), any(), any());
            case 9: return x.go(any());
            case 10: return x.pulls(any(), any(), any());
            case 11: return x.now(any());
            case 12: return Due.read(x, BOX);
            default: return x.row(CHANCE.nextInt(8), CHANCE.nextInt(3), CHANCE.nextInt(41));
        }
    }

    private static int fromGreatest(HummingDisc x, int call) {
        switch (call) {
            case 14: return x.greatest(any(), any(), any(), any(), any(), any());
            case 15: return x.best(any(), any(), any());
            case 16: return x.from(any(), any(), any(), any(), any());
            case 17: return x.late(any(), any(), any(), any(), any());
            case 18: return x.parts(any(), any(), any(), any(), any());
            case 19: return x.lamp(any(), any(), any(), any(), any());
            case 20: return x.wobble(any(), any());
            case 21: return x.sound(any(), any(), any(), any(), any());
            case 22: return x.tune(any(), any(), any(), any(), any(), any());
            case 23: return x.image(any());
            case 24: return x.restore(any());
            case 25: return x.as(any()) + x.kind() + x.forces() + x.status();
            default: return x.ask(any()) + x.trace(any()) + x.count(any());
        }
    }

    /** A call on an object that has a BOX, a RUN, ROWS, a tape and a trace; refused, all of these stay. */
    private static void refusedCall() {
        HummingDisc x = Due.of(BOX);
        for (int row = 0; row < 8; row += 3) Due.row(x, row, row / 3, 1, -2, 3, 4, 5);
        if (CHANCE.nextInt(4) > 0) x.begin(0, CHANCE.nextInt(2), 0, 20);
        x.go(1 + CHANCE.nextInt(9));
        x.ask(1);
        Due.feed(x, "disc 1");
        String ahead = state(x);
        int status = x.status();
        int call = CHANCE.nextInt(25);
        if (call == 5 || call == 12) return;
        int got = answer(x, call);
        if (got > -1000001 || got < -1000015) return;
        boolean found = got <= -1000011;
        Due.is("call " + call + " answered " + got + ", all else", state(x).equals(ahead) ? 0 : 1, 0);
        Due.is("call " + call + " answered " + got + ", status()", x.status(), found ? -1000010 - got : status);
    }

    private static String state(HummingDisc x) {
        StringBuilder s = new StringBuilder();
        for (int what = 0; what < 9; what++) s.append(x.now(what)).append(' ');
        for (int what = 0; what < 6; what++) s.append(x.count(what)).append(' ');
        for (int i = 0; i < 6; i++) s.append(x.trace(i)).append(' ');
        return s.append(x.kind()).append(' ').append(x.fault()).append(' ').append(x.forces()).toString();
    }
}
