/** Terms 2 (RUNS), promises 9 to 13: shorter, begin, go, pulls, now. Each test is for one sentence, or a part of one. */
public final class RunsTest {
    // On the first two threads SHORT of w is w less 1, so that a disc of WEIGHT 10 gets F more pace a TICK.
    private static final String DISCS = "disc 10 0 3; disc 30 0 1; disc 1 99 1; disc 1 1 1;";
    private static final String THREADS = "thread 1 1 20 999; thread 1 1 20 5; thread 30 50 60 400; thread 99 400 800 999;";
    private static final String STEADY = "hand; when tick above -1 pull 2;", NO_RULE = "hand;";
    private static final int[] NUMBERS_BEYOND = {-1, 4, Due.LEAST, Due.GREATEST};

    public static void main(String[] args) {
        aRun();
        shortAndSlope();
        rules();
        give();
        push();
        air();
        most();
        snap();
        shorter();
        begin();
        go();
        pulls();
        now();
        Due.end();
    }

    private static HummingDisc of(String hands) {
        return Due.of(DISCS + THREADS + hands);
    }

    /** HAND 0 pulls by 2, HAND 1 never. */
    private static HummingDisc box() {
        return of(STEADY + NO_RULE);
    }

    // ---- terms

    private static void aRun() {
        discThreadHand();
        turnsPaceTicks();
    }

    private static void discThreadHand() {
        Due.says("Terms", "A RUN: a DISC on a THREAD by a HAND:");
        HummingDisc x = of("hand; when tick above -1 pull 3;" + "hand; when tick above -1 pull 6;");
        int[][] due = {{0, 0, 3}, {0, 1, 6}, {1, 0, 1}, {1, 1, 2}};
        for (int[] d : due) {
            x.begin(d[0], 0, d[1], 20);
            Due.are("by DISC " + d[0] + " and HAND " + d[1], Due.turnsAndPace(x, 1), 20 - d[2], -d[2]);
        }
        x.begin(0, 2, 0, 51);
        Due.are("on another THREAD", Due.turnsAndPace(x, 1), 51 - 21, -21);
    }

    private static void turnsPaceTicks() {
        Due.says("Terms", "TURNS t (either way), PACE v, TICKS gone.");
        HummingDisc x = box();
        x.begin(0, 0, 0, -10);
        Due.are("ahead", new int[] {x.now(0), x.now(1), x.now(2)}, -10, 0, 0);
        x.go(4);
        Due.are("behind", new int[] {x.now(0), x.now(1), x.now(2)}, 6, 4, 4);
    }

    private static void shortAndSlope() {
        shortUpToTwist();
        shortBeyondTwist();
        slope();
        slopeOf0();
    }

    private static void shortUpToTwist() {
        Due.says("Terms", "SHORT of w (0 to 800): w times w times THICK by 1000 (cut) up to TWIST;");
        HummingDisc x = box();
        isShort(x, 2, new int[][] {{0, 0}, {1, 0}, {5, 0}, {6, 1}, {10, 3}, {40, 48}, {49, 72}, {50, 75}});
        isShort(x, 3, new int[][] {{1, 0}, {4, 1}, {399, 15760}, {400, 15840}});
    }

    private static void shortBeyondTwist() {
        Due.says("Terms", "beyond it that of TWIST, and for each one more twice what the last one up to TWIST brought"
            + " (SHORT of TWIST less that of TWIST less 1), and 1.");
        HummingDisc x = box();
        isShort(x, 2, new int[][] {{51, 82}, {52, 89}, {60, 145}, {800, 5325}});
        isShort(x, 3, new int[][] {{401, 16001}, {800, 80240}});
        isShort(x, 0, new int[][] {{1, 0}, {2, 1}, {3, 2}, {800, 799}});
    }

    private static void slope() {
        Due.says("Terms", "SLOPE of w: SHORT of w less that of w less 1");
        HummingDisc x = box();
        for (int thread = 0; thread < 4; thread++) {
            for (int w : new int[] {1, 2, 3, 6, 49, 50, 51, 52, 399, 400, 401, 402, 800}) {
                Due.is("SLOPE of " + w, x.shorter(thread, w, 1), x.shorter(thread, w, 0) - x.shorter(thread, w - 1, 0));
            }
        }
    }

    private static void slopeOf0() {
        Due.says("Terms", "(0 for 0).");
        HummingDisc x = box();
        for (int thread = 0; thread < 4; thread++) Due.is("SLOPE of 0", x.shorter(thread, 0, 1), 0);
    }

    private static void isShort(HummingDisc x, int thread, int[][] due) {
        for (int[] d : due) Due.is("SHORT of " + d[0], x.shorter(thread, d[0], 0), d[1]);
    }

    /** The F of the first TICK from t0. */
    private static int firstPull(HummingDisc x, int hand, int t0) {
        x.begin(0, 0, hand, t0);
        x.go(1);
        return x.now(5);
    }

    /** The F of the TICKS that come next. */
    private static int[] nextPulls(HummingDisc x, int n) {
        int[] all = new int[n];
        for (int i = 0; i < n; i++) {
            x.go(1);
            all[i] = x.now(5);
        }
        return all;
    }

    private static void rules() {
        theFirstRuleThatHolds();
        noRuleHolds();
        wound();
        pace();
        ticksGone();
        below();
        above();
    }

    private static void theFirstRuleThatHolds() {
        Due.says("Terms", "A TICK: the HAND's F: the first rule that holds");
        HummingDisc x = of("hand; when wound above 10 pull 7; when wound below 5 pull 3; when wound above 8 pull 4;");
        int[] due = {3, 3, 3, 3, 3, 0, 0, 0, 0, 4, 4, 7, 7};
        for (int t0 = 0; t0 < due.length; t0++) Due.is("F from " + t0, firstPull(x, 0, t0), due[t0]);
        x = of("hand; when wound above 0 pull 0; when wound above 0 pull 9;");
        Due.is("the first pulls by 0", firstPull(x, 0, 5), 0);
    }

    private static void noRuleHolds() {
        Due.says("Terms", "(none: 0):");
        HummingDisc x = of("hand; hand; when wound above 10 pull 7; when wound below 5 pull 3;");
        Due.is("a HAND without rules", firstPull(x, 0, 7), 0);
        Due.is("no rule holds", firstPull(x, 1, 7), 0);
    }

    private static void wound() {
        Due.says("Terms", "wound: how far t is from 0;");
        HummingDisc x = of("hand; when wound above 10 pull 7; when wound below -5 pull 8; when wound below 1 pull 9;");
        Due.is("-11", firstPull(x, 0, -11), 7);
        Due.is("-10", firstPull(x, 0, -10), 0);
        Due.is("11", firstPull(x, 0, 11), 7);
        Due.is("0", firstPull(x, 0, 0), 9);
    }

    private static void pace() {
        Due.says("Terms", "pace: v without its sign;");
        HummingDisc x = of("hand; when pace below 1 pull 2; when pace above 2 pull 1;");
        for (int t0 : new int[] {20, -20}) {
            x.begin(0, 0, 0, t0);
            Due.are("a pace of 0, then of 2, from " + t0, nextPulls(x, 4), 2, 0, 0, 0);
            x.begin(0, 0, 0, t0);
            Due.pulls(x, 3);
            Due.are("a pace of 3, from " + t0, nextPulls(x, 2), 1, 1);
        }
    }

    private static void ticksGone() {
        Due.says("Terms", "tick: TICKS gone;");
        HummingDisc x = of("hand; when tick below 2 pull 4; when tick above 3 pull 5;");
        x.begin(0, 0, 0, 20);
        Due.are("from the first on", nextPulls(x, 6), 4, 4, 0, 0, 5, 5);
        x.begin(0, 0, 0, 20);
        Due.pulls(x, 0, 0, 0, 0);
        Due.are("told F are TICKS, too", nextPulls(x, 1), 5);
    }

    private static void below() {
        Due.says("Terms", "below: less than NUMBER;");
        HummingDisc x = of("hand; when wound below 7 pull 1;");
        Due.is("6", firstPull(x, 0, 6), 1);
        Due.is("7", firstPull(x, 0, 7), 0);
        Due.is("8", firstPull(x, 0, 8), 0);
    }

    private static void above() {
        Due.says("Terms", "above: more.");
        HummingDisc x = of("hand; when wound above 7 pull 1;");
        Due.is("6", firstPull(x, 0, 6), 0);
        Due.is("7", firstPull(x, 0, 7), 0);
        Due.is("8", firstPull(x, 0, 8), 1);
    }

    private static void give() {
        giveOfOneTick();
        giveAtFirst();
    }

    private static void giveOfOneTick() {
        Due.says("Terms", "give: SHORT of that now less that one TICK ago");
        HummingDisc x = of("hand; when give below -2 pull 9; when give above 2 pull 8; when give above -2 pull 1;");
        x.begin(0, 0, 0, 20);
        Due.pulls(x, 3);
        Due.are("3 less", nextPulls(x, 1), 9);
        x.begin(0, 0, 0, 20);
        Due.pulls(x, 2);
        Due.are("2 less", nextPulls(x, 1), 0);
        x.begin(0, 0, 0, -20);
        Due.pulls(x, 1);
        Due.are("1 less, the other way", nextPulls(x, 1), 1);
        x.begin(0, 0, 0, 10);
        Due.pulls(x, 11, 0);
        Due.are("from -1 to -12, more", nextPulls(x, 1), 8);
        x.begin(0, 0, 0, 20);
        Due.pulls(x, 30, 0);
        Due.are("from -10 to MOST, 10 more; from there 8 less", nextPulls(x, 2), 8, 9);
        x = of("hand; when give below -14 pull 9; when give below -13 pull 8; when give below 0 pull 7;");
        x.begin(1, 2, 0, 52);
        Due.pulls(x, 1);
        Due.are("from 52 to 50, where SHORT is 89 and 75", nextPulls(x, 1), 8);
        x.begin(1, 2, 0, 52);
        Due.pulls(x, 0);
        Due.are("nothing moved", nextPulls(x, 1), 0);
    }

    private static void giveAtFirst() {
        Due.says("Terms", "(0 at first);");
        HummingDisc x = of("hand; when give below 0 pull 9; when give above 0 pull 8; when give below 1 pull 2;");
        for (int t0 : new int[] {20, -20, 0, 1}) Due.is("F of the first TICK from " + t0, firstPull(x, 0, t0), 2);
        x.begin(0, 0, 0, 20);
        x.go(5);
        Due.is("a RUN that begins behind another", firstPull(x, 0, 20), 2);
    }

    private static void push() {
        forceTimesSlope();
        pushTo0();
    }

    private static void forceTimesSlope() {
        Due.says("Terms", "PUSH: F times SLOPE (of how far t is from 0) times 10 by WEIGHT (cut):");
        HummingDisc x = box();
        x.begin(0, 2, 1, 51);
        Due.pulls(x, 3);
        Due.is("3 times 7 times 10 by 10", x.now(6), 21);
        x.begin(0, 2, 1, -50);
        Due.pulls(x, 4);
        Due.is("4 times 3 times 10 by 10", x.now(6), 12);
        x.begin(1, 0, 1, 20);
        Due.pulls(x, 2);
        Due.is("20 by 30", x.now(6), 0);
        Due.pulls(x, 3);
        Due.is("30 by 30", x.now(6), 1);
        x.begin(1, 0, 1, 20);
        Due.pulls(x, 5);
        Due.is("50 by 30", x.now(6), 1);
        x.begin(0, 0, 1, 1);
        Due.pulls(x, 99);
        Due.is("a SLOPE of 0", x.now(6), 0);
    }

    private static void pushTo0() {
        Due.says("Terms", "v becomes so much more the way from t to 0.");
        HummingDisc x = box();
        x.begin(0, 0, 1, 20);
        Due.pulls(x, 3, 4);
        Due.is("from above", x.now(1), -7);
        x.begin(0, 0, 1, -20);
        Due.pulls(x, 3, 4);
        Due.is("from below", x.now(1), 7);
        x.begin(0, 0, 1, 5);
        Due.pulls(x, 9, 4);
        Due.are("against its way: 5, -4, -9", Due.turnsAndPace(x, 0), -9, -5);
        x.begin(0, 0, 1, 5);
        Due.pulls(x, 9, 12);
        Due.are("beyond its way: 5, -4, -1", Due.turnsAndPace(x, 0), -1, 3);
        x.begin(0, 0, 1, 0);
        Due.pulls(x, 99);
        Due.are("from 0", Due.turnsAndPace(x, 0), 0, 0);
    }

    private static void air() {
        airCutsTwice();
        airLeaves0AtLeast();
        nothingWraps();
    }

    private static void airCutsTwice() {
        Due.says("Terms", "Then v, without its sign, becomes less by (v times v by 1000, times AIR, by 100: cut twice),");
        HummingDisc x = box();
        x.begin(2, 0, 1, 20);
        Due.pulls(x, 14);
        Due.is("140: 19 (of 19.6) times 99 by 100 is 18 (of 18.8)", x.now(6), 122);
        x.begin(2, 0, 1, -20);
        Due.pulls(x, 14);
        Due.is("140 the other way", x.now(6), 122);
        x.begin(2, 0, 1, 20);
        Due.pulls(x, 99);
        Due.is("990: 980 (of 980.1) times 99 by 100 is 970 (of 970.2)", x.now(6), 20);
        x.begin(2, 0, 1, 20);
        Due.pulls(x, 3);
        Due.are("30: nothing (of 0.9)", Due.turnsAndPace(x, 0), -10, -30);
        HummingDisc y = Due.of("disc 10 50 1; thread 1 1 800 999; hand;");
        y.begin(0, 0, 0, 800);
        Due.pulls(y, 70);
        Due.are("70: 4 times 50 by 100 is 2", Due.turnsAndPace(y, 0), 732, -68);
        Due.are("68 as it goes on: 4 times 50 by 100", Due.turnsAndPace(y, 1), 732 - 66, -66);
    }

    private static void airLeaves0AtLeast() {
        Due.says("Terms", "0 at least (nothing wraps).");
        HummingDisc x = box();
        x.begin(2, 2, 1, 60);
        Due.pulls(x, 99);
        Due.is("6930: 48024 times 99 by 100 is more than it", x.now(6), 0);
        Due.are("it stands", Due.turnsAndPace(x, 0), 60, 0);
    }

    private static void nothingWraps() {
        Due.says("Terms", "(nothing wraps).");
        HummingDisc x = box();
        x.begin(2, 3, 1, 800);
        Due.pulls(x, 99);
        Due.are("159390, by itself, times AIR of 99", Due.now(x), 800, 0, 1, 0, 80240, 99, 0, 0, 0);
        x.begin(3, 3, 1, -800);
        Due.pulls(x, 99);
        Due.are("159390, by itself, times AIR of 1", Due.now(x), -800, 0, 1, 0, 80240, 99, 0, 0, 0);
        HummingDisc y = Due.of("disc 1 0 60; thread 99 400 800 999; hand;");
        y.begin(0, 0, 0, 800);
        Due.pulls(y, 99);
        Due.are("159390, by itself, times AIR of 0", Due.now(y), -800, 0, 1, 1, 80240, 99, 159390, 0, 1);
    }

    private static void most() {
        turnsAndPace();
        beyondMost();
        noPaceAtMost();
    }

    private static void turnsAndPace() {
        Due.says("Terms", "t becomes t and v.");
        HummingDisc x = box();
        x.begin(0, 0, 1, 20);
        Due.pulls(x, 3);
        Due.are("20 and -3", Due.turnsAndPace(x, 0), 17, -3);
        Due.are("17 and -3", Due.turnsAndPace(x, 1), 14, -3);
    }

    private static void beyondMost() {
        Due.says("Terms", "Beyond MOST (either way): t is MOST that way;");
        HummingDisc x = box();
        x.begin(0, 0, 1, 20);
        Due.pulls(x, 41);
        Due.is("one beyond", x.now(0), -20);
        x.begin(0, 0, 1, -20);
        Due.pulls(x, 41);
        Due.is("one beyond the other way", x.now(0), 20);
        x.begin(0, 0, 1, 20);
        Due.pulls(x, 40);
        Due.are("at MOST, not beyond", Due.turnsAndPace(x, 0), -20, -40);
        x.begin(0, 0, 1, -20);
        Due.pulls(x, 40);
        Due.are("at MOST, not beyond, the other way", Due.turnsAndPace(x, 0), 20, 40);
    }

    private static void noPaceAtMost() {
        Due.says("Terms", "(nothing goes on); v is 0.");
        HummingDisc x = box();
        x.begin(0, 0, 1, 20);
        Due.pulls(x, 41);
        Due.is("v", x.now(1), 0);
        Due.is("not SNAPPED", x.now(3), 0);
        Due.pulls(x, 40, 0);
        Due.are("it goes on from there", Due.turnsAndPace(x, 0), 20, 0);
    }

    private static void snap() {
        moreThanSnap();
        nothingGoesOn();
    }

    private static void moreThanSnap() {
        Due.says("Terms", "if v is more than SNAP either way, the THREAD is SNAPPED");
        HummingDisc x = box();
        for (int way = -1; way <= 1; way += 2) {
            x.begin(0, 1, 1, 20 * way);
            Due.pulls(x, 5, 0, 0, 0, 0, 0, 0, 0, 0);
            Due.are("by SNAP", new int[] {x.now(0), x.now(1), x.now(2), x.now(3)}, -20 * way, 0, 9, 0);
            x.begin(0, 1, 1, 20 * way);
            Due.pulls(x, 6, 0, 0, 0, 0, 0, 0);
            Due.are("by one more", new int[] {x.now(0), x.now(1), x.now(2), x.now(3)}, -20 * way, 0, 7, 1);
            x.begin(0, 1, 1, 20 * way);
            Due.pulls(x, 10, 0, 0, 0);
            Due.are("at MOST, not beyond", new int[] {x.now(0), x.now(1), x.now(2), x.now(3)}, -20 * way, -10 * way, 4, 0);
        }
        x = Due.of("disc 1 99 1; thread 1 1 20 122; thread 1 1 20 121; hand;");
        for (int thread = 0; thread < 2; thread++) {
            x.begin(0, thread, 0, 20);
            Due.pulls(x, 14);
            Due.is("140, behind the air 122, by a SNAP of " + (122 - thread), x.now(3), thread);
        }
    }

    private static void nothingGoesOn() {
        Due.says("Terms", "(nothing goes on);");
        HummingDisc x = box();
        x.begin(0, 1, 1, 20);
        Due.is("two of five", Due.pulls(x, 30, 0, 0, 0, 0), 2);
        int[] all = Due.now(x);
        Due.is("SNAPPED", all[3], 1);
        Due.is("go(200)", x.go(200), 0);
        Due.is("pulls()", Due.pulls(x, 9, 9), 0);
        Due.are("all stays", Due.now(x), all);
        Due.is("a new RUN", x.begin(0, 1, 0, 20), 1);
        Due.is("is not SNAPPED", x.now(3), 0);
        Due.is("and goes", x.go(1), 1);
    }

    // ---- promises 9 to 13

    private static void shorter() {
        shorterShort();
        shorterSlope();
        shorterOfAThread();
        shorterBad();
    }

    private static void shorterShort() {
        Due.says("Promise 9", "SHORT of w (what = 0),");
        HummingDisc x = box();
        Due.is("the least", x.shorter(2, 0, 0), 0);
        Due.is("of 50", x.shorter(2, 50, 0), 75);
        Due.is("beyond MOST", x.shorter(2, 61, 0), 152);
        Due.is("the greatest", x.shorter(2, 800, 0), 5325);
    }

    private static void shorterSlope() {
        Due.says("Promise 9", "SLOPE (1),");
        HummingDisc x = box();
        Due.is("of 0", x.shorter(2, 0, 1), 0);
        Due.is("of 50", x.shorter(2, 50, 1), 3);
        Due.is("of 51", x.shorter(2, 51, 1), 7);
        Due.is("of 800", x.shorter(2, 800, 1), 7);
    }

    private static void shorterOfAThread() {
        Due.says("Promise 9", "of a THREAD.");
        HummingDisc x = box();
        int[] due = {49, 49, 75, 247};
        for (int thread = 0; thread < 4; thread++) Due.is("THREAD " + thread, x.shorter(thread, 50, 0), due[thread]);
    }

    private static void shorterBad() {
        Due.says("Promise 9", "BAD.");
        HummingDisc x = box();
        for (int n : NUMBERS_BEYOND) Due.is("THREAD " + n, x.shorter(n, 0, 0), Due.BAD);
        for (int n : new int[] {-1, 801, Due.LEAST, Due.GREATEST}) Due.is("w of " + n, x.shorter(0, n, 0), Due.BAD);
        for (int n : new int[] {-1, 2, Due.LEAST, Due.GREATEST}) Due.is("what of " + n, x.shorter(0, 1, n), Due.BAD);
        Due.is("without a BOX", new HummingDisc().shorter(0, 0, 0), Due.BAD);
    }

    private static void begin() {
        beginARunBegins();
        beginWithinMost();
        beginAtRest();
        beginTicks0();
        beginAnswers1();
        beginBad();
    }

    private static void beginARunBegins() {
        Due.says("Promise 10", "A RUN begins:");
        HummingDisc x = box();
        Due.is("go(1) ahead of it", x.go(1), Due.STATE);
        x.begin(0, 0, 0, 10);
        Due.is("go(1) behind it", x.go(1), 1);
        x.begin(1, 2, 1, -3);
        Due.are("another in its place", Due.now(x), -3, 0, 0, 0, 0, Due.NONE, 0, 0, 0);
    }

    private static void beginWithinMost() {
        Due.says("Promise 10", "t0 is -MOST to MOST,");
        HummingDisc x = box();
        int[] most = {20, 20, 60, 800};
        for (int thread = 0; thread < 4; thread++) {
            for (int t0 : new int[] {-most[thread], -1, 0, 1, most[thread]}) {
                Due.is("t0 of " + t0, x.begin(0, thread, 0, t0), 1);
                Due.is("t", x.now(0), t0);
            }
            Due.is("beyond", x.begin(0, thread, 0, most[thread] + 1), Due.BAD);
            Due.is("beyond the other way", x.begin(0, thread, 0, -most[thread] - 1), Due.BAD);
            Due.is("it was refused", x.now(0), most[thread]);
        }
    }

    private static void beginAtRest() {
        Due.says("Promise 10", "at rest,");
        HummingDisc x = box();
        x.begin(0, 0, 0, 20);
        x.go(3);
        x.begin(0, 0, 0, 20);
        Due.is("v", x.now(1), 0);
    }

    private static void beginTicks0() {
        Due.says("Promise 10", "TICKS 0:");
        HummingDisc x = box();
        x.begin(0, 0, 0, 20);
        x.go(3);
        x.begin(0, 0, 0, 20);
        Due.is("TICKS", x.now(2), 0);
    }

    private static void beginAnswers1() {
        Due.says("Promise 10", "TICKS 0: 1.");
        HummingDisc x = box();
        Due.is("begin()", x.begin(3, 3, 1, 7), 1);
    }

    private static void beginBad() {
        Due.says("Promise 10", "BAD.");
        HummingDisc x = box();
        x.begin(0, 0, 0, 7);
        for (int n : NUMBERS_BEYOND) {
            Due.is("DISC " + n, x.begin(n, 0, 0, 1), Due.BAD);
            Due.is("THREAD " + n, x.begin(0, n, 0, 1), Due.BAD);
            Due.is("HAND " + n, x.begin(0, 0, n, 1), Due.BAD);
        }
        Due.is("HAND 2", x.begin(0, 0, 2, 1), Due.BAD);
        Due.is("t0 the least", x.begin(0, 0, 0, Due.LEAST), Due.BAD);
        Due.is("t0 the greatest", x.begin(0, 0, 0, Due.GREATEST), Due.BAD);
        Due.is("without a BOX", new HummingDisc().begin(0, 0, 0, 0), Due.BAD);
        Due.is("the RUN stays", x.now(0), 7);
    }

    private static void go() {
        goOneTo200();
        goByTheHand();
        goHowManyWent();
        goToTheSnap();
        goBad();
        goNoRun();
    }

    private static void goOneTo200() {
        Due.says("Promise 11", "n TICKS (1 to 200)");
        HummingDisc x = box();
        x.begin(0, 0, 0, 10);
        Due.is("go(1)", x.go(1), 1);
        Due.is("TICKS", x.now(2), 1);
        Due.is("go(200)", x.go(200), 200);
        Due.is("TICKS", x.now(2), 201);
    }

    private static void goByTheHand() {
        Due.says("Promise 11", "by the HAND:");
        HummingDisc x = box();
        x.begin(0, 0, 0, 10);
        Due.are("behind 1", Due.turnsAndPace(x, 1), 8, -2);
        Due.are("behind 3", Due.turnsAndPace(x, 2), -2, -6);
        Due.are("behind 6", Due.turnsAndPace(x, 3), -8, 0);
        Due.are("behind 7", Due.turnsAndPace(x, 1), -6, 2);
        x.begin(0, 0, 1, 10);
        Due.are("by another", Due.turnsAndPace(x, 3), 10, 0);
    }

    private static void goHowManyWent() {
        Due.says("Promise 11", "how many went");
        HummingDisc x = box();
        x.begin(0, 0, 0, 20);
        for (int n : new int[] {1, 2, 3, 199, 200}) Due.is("go(" + n + ")", x.go(n), n);
    }

    private static void goToTheSnap() {
        Due.says("Promise 11", "(SNAPPED: no more).");
        HummingDisc x = box();
        x.begin(0, 1, 1, 20);
        Due.pulls(x, 9);
        // 11, then 2, -7, -16, and beyond.
        Due.is("four more", x.go(200), 4);
        Due.is("SNAPPED", x.now(3), 1);
        Due.is("TICKS", x.now(2), 5);
        Due.is("no more", x.go(1), 0);
    }

    private static void goBad() {
        Due.says("Promise 11", "BAD;");
        HummingDisc x = box();
        x.begin(0, 0, 0, 10);
        for (int n : new int[] {0, 201, -1, Due.LEAST, Due.GREATEST}) {
            Due.is("go(" + n + ")", x.go(n), Due.BAD);
            Due.is("go(" + n + ") without a RUN", new HummingDisc().go(n), Due.BAD);
        }
        Due.is("TICKS", x.now(2), 0);
    }

    private static void goNoRun() {
        Due.says("Promise 11", "STATE: no RUN.");
        Due.is("without a BOX", new HummingDisc().go(1), Due.STATE);
        Due.is("with a BOX", box().go(200), Due.STATE);
    }

    private static void pulls() {
        pullsByToldF();
        pullsOneToForty();
        pulls0To99();
        pullsFromTheMidst();
        pullsHowManyWent();
        pullsBadRowN();
        pullsNoRun();
        pullsNull();
        pullsPlace();
        pullsBadItem();
    }

    private static void pullsByToldF() {
        Due.says("Promise 12", "TICKS by told F,");
        HummingDisc x = box();
        x.begin(0, 0, 0, 20);
        Due.pulls(x, 3);
        Due.are("3, not the HAND's 2", Due.turnsAndPace(x, 0), 17, -3);
        Due.pulls(x, 0, 4);
        Due.are("0, 4", Due.turnsAndPace(x, 0), 7, -7);
    }

    private static void pullsOneToForty() {
        Due.says("Promise 12", "n ITEMS (1 to 40;");
        HummingDisc x = box();
        x.begin(0, 0, 0, 20);
        Due.is("one", Due.pulls(x, 0), 1);
        Due.is("forty", Due.pulls(x, new int[40]), 40);
        Due.is("TICKS", x.now(2), 41);
    }

    private static void pulls0To99() {
        Due.says("Promise 12", "0 to 99 each)");
        HummingDisc x = box();
        x.begin(0, 0, 0, 20);
        Due.is("0", Due.pulls(x, 0), 1);
        Due.is("99", Due.pulls(x, 99), 1);
        Due.is("its F", x.now(5), 99);
    }

    private static void pullsFromTheMidst() {
        Due.says("Promise 12", "of a ROW from i on:");
        HummingDisc x = box();
        for (int lane = 0; lane < 3; lane++) {
            x.begin(0, 0, 0, 20);
            Due.row(x, 3, lane, 90, 1, 2, 80);
            Due.is("two from 1 on", x.pulls(3, 1, 2), 2);
            Due.are("1, 2", Due.turnsAndPace(x, 0), 16, -3);
            Due.is("one from 3 on", x.pulls(3, 3, 1), 1);
            Due.is("80", x.now(5), 80);
        }
    }

    private static void pullsHowManyWent() {
        Due.says("Promise 12", "how many went.");
        HummingDisc x = box();
        x.begin(0, 1, 0, 20);
        Due.is("all", Due.pulls(x, 1, 1, 1), 3);
        Due.is("to the SNAP", Due.pulls(x, 0, 99, 9, 9, 9), 2);
        Due.is("SNAPPED", x.now(3), 1);
        Due.is("TICKS", x.now(2), 5);
        Due.is("none behind it", Due.pulls(x, 1, 1, 1), 0);
    }

    private static void pullsBadRowN() {
        Due.says("Promise 12", "BAD: ROW, n;");
        HummingDisc x = box();
        x.begin(0, 0, 0, 20);
        for (HummingDisc y : new HummingDisc[] {new HummingDisc(), x}) {
            for (int row : new int[] {-1, 8, Due.LEAST, Due.GREATEST}) {
                Due.is("ROW " + row, y.pulls(row, 0, 1), Due.BAD);
            }
            for (int n : new int[] {0, -1, 41, Due.LEAST, Due.GREATEST}) Due.is("n of " + n, y.pulls(0, 0, n), Due.BAD);
        }
    }

    private static void pullsNoRun() {
        Due.says("Promise 12", "STATE: no RUN;");
        Due.is("a missing ROW", new HummingDisc().pulls(0, 0, 1), Due.STATE);
        HummingDisc y = box();
        Due.row(y, 0, 0, 1, -1);
        Due.is("a ROW", y.pulls(0, 0, 1), Due.STATE);
        Due.is("a place beyond it", y.pulls(0, 2, 1), Due.STATE);
        Due.is("a bad ITEM", y.pulls(0, 1, 1), Due.STATE);
    }

    private static void pullsNull() {
        Due.says("Promise 12", "NULL;");
        HummingDisc x = box();
        x.begin(0, 0, 0, 20);
        Due.is("a missing ROW", x.pulls(5, 0, 1), Due.NULL);
        Due.is("ahead of PLACE", x.pulls(5, -1, 40), Due.NULL);
    }

    private static void pullsPlace() {
        Due.says("Promise 12", "PLACE;");
        HummingDisc x = box();
        x.begin(0, 0, 0, 20);
        Due.row(x, 0, 2, 1, 99, 100, 0, -1);
        Due.is("beyond the end", x.pulls(0, 4, 2), Due.PLACE);
        for (int i : new int[] {-1, 5, Due.LEAST, Due.GREATEST}) Due.is("i of " + i, x.pulls(0, i, 1), Due.PLACE);
        Due.is("ahead of a bad ITEM", x.pulls(0, 2, 4), Due.PLACE);
    }

    private static void pullsBadItem() {
        Due.says("Promise 12", "then BAD: an ITEM.");
        HummingDisc x = box();
        x.begin(0, 0, 0, 20);
        Due.row(x, 0, 2, 1, 99, 100, 0, -1);
        Due.is("100", x.pulls(0, 2, 1), Due.BAD);
        Due.is("-1", x.pulls(0, 4, 1), Due.BAD);
        Due.is("100 at the end", x.pulls(0, 0, 3), Due.BAD);
        Due.are("nothing went", Due.now(x), 20, 0, 0, 0, 19, Due.NONE, 0, 0, 0);
        x.begin(0, 1, 0, 20);
        Due.pulls(x, 99);
        Due.is("SNAPPED, too", x.pulls(0, 2, 1), Due.BAD);
    }

    // ---- promise 13

    private static void now() {
        nowOfARun();
        greatestPace();
        through();
        nowBad();
        nowNoRun();
    }

    private static void nowBad() {
        Due.says("Promise 13", "BAD;");
        HummingDisc x = box();
        x.begin(0, 0, 0, 5);
        for (int what : new int[] {-1, 9, Due.LEAST, Due.GREATEST}) {
            Due.is("now(" + what + ")", x.now(what), Due.BAD);
            Due.is("now(" + what + ") without a RUN", new HummingDisc().now(what), Due.BAD);
        }
    }

    private static void nowNoRun() {
        Due.says("Promise 13", "STATE: no RUN.");
        for (int what = 0; what <= 8; what++) {
            Due.is("now(" + what + ") without a BOX", new HummingDisc().now(what), Due.STATE);
            Due.is("now(" + what + ") with a BOX", box().now(what), Due.STATE);
        }
    }

    /** At -30 by 21. */
    private static HummingDisc moving() {
        HummingDisc x = box();
        x.begin(0, 2, 0, -51);
        Due.pulls(x, 3);
        return x;
    }

    /** SNAPPED in its third TICK. */
    private static HummingDisc snapped() {
        HummingDisc x = box();
        x.begin(0, 1, 0, 20);
        Due.pulls(x, 0, 0, 99);
        return x;
    }

    private static void nowOfARun() {
        nowTurns();
        nowPace();
        nowTicks();
        nowWhetherSnapped();
        nowShort();
        nowLatestForce();
        nowNoForceYet();
        nowTone();
    }

    private static void nowTurns() {
        Due.says("Promise 13", "Of the RUN: 0 t,");
        Due.is("t", moving().now(0), -30);
        Due.is("t, SNAPPED", snapped().now(0), -20);
    }

    private static void nowPace() {
        Due.says("Promise 13", "1 v,");
        Due.is("v", moving().now(1), 21);
        Due.is("v, SNAPPED", snapped().now(1), 0);
    }

    private static void nowTicks() {
        Due.says("Promise 13", "2 TICKS,");
        Due.is("TICKS", moving().now(2), 1);
        Due.is("TICKS, SNAPPED", snapped().now(2), 3);
    }

    private static void nowWhetherSnapped() {
        Due.says("Promise 13", "3 whether SNAPPED (1, 0),");
        Due.is("not SNAPPED", moving().now(3), 0);
        Due.is("SNAPPED", snapped().now(3), 1);
    }

    private static void nowShort() {
        Due.says("Promise 13", "4 SHORT of how far t is from 0,");
        Due.is("of -30", moving().now(4), 27);
        HummingDisc x = box();
        x.begin(0, 2, 0, -60);
        Due.is("of -60, beyond TWIST", x.now(4), 145);
    }

    private static void nowLatestForce() {
        Due.says("Promise 13", "5 the F of the latest TICK");
        HummingDisc x = box();
        x.begin(0, 0, 0, 20);
        x.go(1);
        Due.is("the HAND's", x.now(5), 2);
        Due.pulls(x, 7, 3);
        Due.is("a told one", x.now(5), 3);
        Due.pulls(x, 0);
        Due.is("one of 0", x.now(5), 0);
        Due.is("of the one that SNAPPED", snapped().now(5), 99);
    }

    private static void nowNoForceYet() {
        Due.says("Promise 13", "(NONE),");
        HummingDisc x = box();
        x.begin(0, 0, 0, 20);
        Due.is("ahead of the first", x.now(5), Due.NONE);
    }

    private static void nowTone() {
        Due.says("Promise 13", "7 the tone (v without its sign times TEETH),");
        HummingDisc x = box();
        Due.is("21 times 3", moving().now(7), 63);
        x.begin(0, 0, 0, 20);
        Due.pulls(x, 4);
        Due.is("-4 times 3", x.now(7), 12);
        x.begin(1, 0, 0, 20);
        Due.pulls(x, 12);
        Due.is("-4 times 1", x.now(7), 4);
        Due.is("SNAPPED: v is 0", snapped().now(7), 0);
    }

    private static void greatestPace() {
        Due.says("Promise 13", "6 the greatest v either way so far,");
        HummingDisc x = box();
        x.begin(0, 0, 1, 20);
        Due.is("at first", x.now(6), 0);
        Due.pulls(x, 3);
        Due.is("3 downwards", x.now(6), 3);
        Due.pulls(x, 17, 0, 15);
        Due.are("20 downwards, then 15 upwards", new int[] {x.now(6), x.now(1)}, 20, 15);
        x.begin(0, 0, 1, -20);
        Due.pulls(x, 8);
        Due.is("8 upwards", x.now(6), 8);
        x.begin(0, 0, 1, 20);
        Due.pulls(x, 50);
        Due.are("of the TICK that ends at MOST", new int[] {x.now(6), x.now(1)}, 50, 0);
        x.begin(0, 1, 1, 20);
        Due.pulls(x, 50);
        Due.are("of the TICK that SNAPS", new int[] {x.now(6), x.now(1)}, 50, 0);
        x.begin(2, 0, 1, 20);
        Due.pulls(x, 14);
        Due.is("behind the air", x.now(6), 122);
    }

    private static void through() {
        became0();
        changedItsSign();
        notFrom0();
    }

    private static void became0() {
        Due.says("Promise 13", "8 how often t went through 0 (became 0,");
        HummingDisc x = box();
        x.begin(0, 0, 1, 6);
        Due.is("at first", x.now(8), 0);
        Due.pulls(x, 2);
        Due.is("nearer", x.now(8), 0);
        Due.pulls(x, 2);
        Due.are("it became 0", new int[] {x.now(0), x.now(8)}, 0, 1);
    }

    private static void changedItsSign() {
        Due.says("Promise 13", "or changed its sign,");
        HummingDisc x = box();
        for (int t0 : new int[] {6, -6}) {
            x.begin(0, 0, 1, t0);
            Due.pulls(x, 7);
            Due.are("it changed its sign", new int[] {Math.abs(x.now(0)), x.now(8)}, 1, 1);
            Due.pulls(x, 0);
            Due.is("and goes on", x.now(8), 1);
        }
        x.begin(0, 0, 1, 20);
        Due.pulls(x, 99);
        Due.is("over to MOST in one TICK", x.now(8), 1);
        Due.pulls(x, 99);
        Due.is("and back", x.now(8), 2);
        x.begin(0, 1, 1, 20);
        Due.pulls(x, 99);
        Due.is("in the TICK that SNAPS", x.now(8), 1);
    }

    private static void notFrom0() {
        Due.says("Promise 13", "from one that was not 0).");
        HummingDisc x = box();
        x.begin(0, 0, 1, 6);
        Due.pulls(x, 6, 0);
        Due.are("on from 0 is not once more", new int[] {x.now(0), x.now(8)}, -6, 1);
        x.begin(0, 0, 1, 0);
        Due.pulls(x, 5, 5);
        Due.are("it stays 0", new int[] {x.now(0), x.now(8)}, 0, 0);
    }
}
