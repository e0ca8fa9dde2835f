/** Terms 3 (KINDS), Terms 4 (ASKS), promises 26 to 30: kind, as, ask, trace, count. Each test is for one sentence. */
public final class AskedTest {
    // Beyond 10, TWIST, each SLOPE is 1, else 0: by WEIGHT 10 the first F gives the pace that stays.
    private static final String BOX = "disc 10 0 1; thread 1 10 20 5; hand;";

    public static void main(String[] args) {
        kinds();
        toldAs();
        sizes();
        marks();
        bodies();
        kind();
        as();
        ask();
        trace();
        count();
        Due.end();
    }

    /** From t0 by one pull, then without, until so many TICKS went. */
    private static HummingDisc after(int t0, int f, int ticks) {
        HummingDisc x = Due.of(BOX);
        x.begin(0, 0, 0, t0);
        Due.pulls(x, f);
        if (ticks > 1) x.go(ticks - 1);
        Due.is("TICKS", x.now(2), ticks);
        return x;
    }

    private static HummingDisc unwinding() {
        return after(15, 3, 1);
    }

    /** At -3, with a pace of -3. */
    private static HummingDisc winding() {
        return after(15, 3, 6);
    }

    /** At -12, with a pace of -3. */
    private static HummingDisc over() {
        return after(15, 3, 9);
    }

    /** At -20, MOST, not SNAPPED. */
    private static HummingDisc dead() {
        return after(15, 3, 12);
    }

    private static HummingDisc snapped() {
        return after(15, 6, 6);
    }

    /** Whether it is one of a KIND, by as(). */
    private static void isOne(HummingDisc x, int kind, boolean is) {
        Due.is("as(" + kind + ") of one told as " + x.kind(), x.as(kind), is ? x.now(2) : Due.KIND);
    }

    // ---- kinds

    private static void kinds() {
        kindFinding();
        timeAsItIs();
        unwindingIsATime();
        windingIsATime();
        deadIsATime();
        overIsWinding();
        snappedIsDead();
    }

    private static void kindFinding() {
        Due.says("Terms", "3 KIND (a TIME that is not that),");
        Due.is("as(1) of a DEAD one", dead().as(1), -1000013);
    }

    private static void timeAsItIs() {
        Due.says("Terms", "KINDS of TIMES (of the RUN as it is): 0 TIME;");
        HummingDisc[] all = {unwinding(), winding(), over(), dead(), snapped()};
        for (HummingDisc x : all) isOne(x, 0, true);
        HummingDisc y = unwinding();
        y.go(5);
        Due.is("as it is now", y.kind(), 2);
    }

    private static void unwindingIsATime() {
        Due.says("Terms", "1 UNWINDING, a TIME;");
        HummingDisc[] all = {unwinding(), winding(), over(), dead(), snapped()};
        int[] told = {1, 2, 4, 3, 5};
        for (int i = 0; i < 5; i++) isOne(all[i], 1, told[i] == 1);
    }

    private static void windingIsATime() {
        Due.says("Terms", "2 WINDING, a TIME;");
        HummingDisc[] all = {unwinding(), winding(), over(), dead(), snapped()};
        int[] told = {1, 2, 4, 3, 5};
        for (int i = 0; i < 5; i++) isOne(all[i], 2, told[i] == 2 || told[i] == 4);
    }

    private static void deadIsATime() {
        Due.says("Terms", "3 DEAD, a TIME: v is 0;");
        HummingDisc[] all = {unwinding(), winding(), over(), dead(), snapped()};
        int[] told = {1, 2, 4, 3, 5};
        for (int i = 0; i < 5; i++) isOne(all[i], 3, told[i] == 3 || told[i] == 5);
    }

    private static void overIsWinding() {
        Due.says("Terms", "4 OVER, a WINDING one: t beyond TWIST;");
        HummingDisc[] all = {unwinding(), winding(), over(), dead(), snapped()};
        int[] told = {1, 2, 4, 3, 5};
        for (int i = 0; i < 5; i++) isOne(all[i], 4, told[i] == 4);
    }

    private static void snappedIsDead() {
        Due.says("Terms", "5 SNAPPED, a DEAD one.");
        HummingDisc[] all = {unwinding(), winding(), over(), dead(), snapped()};
        int[] told = {1, 2, 4, 3, 5};
        for (int i = 0; i < 5; i++) isOne(all[i], 5, told[i] == 5);
    }

    private static void toldAs() {
        toldAsSnappedOrDead();
        toldAsUnwinding();
        toldAsOver();
        toldAsWinding();
        askedByThis();
    }

    private static void toldAsSnappedOrDead() {
        Due.says("Terms", "It is told as SNAPPED, else DEAD,");
        Due.is("SNAPPED", snapped().kind(), 5);
        Due.is("at MOST", dead().kind(), 3);
        HummingDisc x = Due.of(BOX);
        for (int t0 : new int[] {-20, -10, 0, 10, 15}) {
            x.begin(0, 0, 0, t0);
            Due.is("at rest at " + t0, x.kind(), 3);
        }
    }

    private static void toldAsUnwinding() {
        Due.says("Terms", "else UNWINDING, if v times t is below 0,");
        Due.is("at 12, beyond TWIST, by -3", unwinding().kind(), 1);
        Due.is("at -13 by 2", after(-15, 2, 1).kind(), 1);
        Due.is("at 1 by -3", after(13, 3, 4).kind(), 1);
        Due.is("at -1 by 3", after(-13, 3, 4).kind(), 1);
        Due.is("at 0 it is not", after(15, 3, 5).kind(), 2);
    }

    private static void toldAsOver() {
        Due.says("Terms", "else OVER, if t is beyond TWIST either way,");
        Due.is("at -11 by -1", after(11, 1, 22).kind(), 4);
        Due.is("at 11 by 1", after(-11, 1, 22).kind(), 4);
        Due.is("at -10 by -1", after(11, 1, 21).kind(), 2);
        Due.is("at 10 by 1", after(-11, 1, 21).kind(), 2);
        Due.is("at MOST with a pace", after(15, 5, 7).kind(), 4);
    }

    private static void toldAsWinding() {
        Due.says("Terms", "else WINDING:");
        Due.is("at -3 by -3", winding().kind(), 2);
        Due.is("at 2 by 3", after(-13, 3, 5).kind(), 2);
        Due.is("at 0 by -3", after(15, 3, 5).kind(), 2);
        Due.is("at 0 by 3", after(-15, 3, 5).kind(), 2);
    }

    private static void askedByThis() {
        Due.says("Terms", "by this it is asked.");
        Due.is("beyond TWIST, but UNWINDING", unwinding().ask(1), 1 + 3);
        Due.is("of v 0, but SNAPPED", snapped().ask(1), 20 - 6);
    }

    // ---- asks

    private static void asked(HummingDisc x, int what, int want, int... trace) {
        Due.is("ask(" + what + ") of one told as " + x.kind(), x.ask(what), want);
        Due.are("its trace", Due.trace(x), trace);
    }

    private static void sizes() {
        size10();
        size11();
        size12();
        size13();
        size14();
    }

    private static void size10() {
        Due.says("Terms", "0 SIZE: 10 lent to all TIMES: how far t is from 0.");
        HummingDisc x = Due.of(BOX);
        for (int t0 : new int[] {-20, -1, 0, 1, 20}) {
            x.begin(0, 0, 0, t0);
            asked(x, 0, -Math.abs(t0), 14, 10);
        }
    }

    private static void size11() {
        Due.says("Terms", "11 of UNWINDING ones: what 10 gives, and MARK.");
        asked(unwinding(), 0, 12 + 1 + 3, 11, 10, 21, 20);
        asked(after(-15, 3, 2), 0, 9 + 2 + 3, 11, 10, 21, 20);
    }

    private static void size12() {
        Due.says("Terms", "12 of WINDING ones: what 10 gives, less MARK.");
        asked(winding(), 0, 3 - 6, 12, 10, 20);
        asked(after(15, 3, 5), 0, -5, 12, 10, 20);
        asked(after(-13, 3, 5), 0, 2 - 5, 12, 10, 20);
    }

    private static void size13() {
        Due.says("Terms", "13 of OVER ones: twice what 12 gives (asked once).");
        asked(over(), 0, 2 * (12 - 1009), 13, 12, 10, 22, 20);
        asked(after(-11, 1, 22), 0, 2 * (11 - 1022), 13, 12, 10, 22, 20);
    }

    private static void size14() {
        Due.says("Terms", "14 of DEAD ones: 0 less what 10 gives.");
        asked(dead(), 0, -20, 14, 10);
        asked(snapped(), 0, -20, 14, 10);
    }

    private static void marks() {
        mark20();
        mark21();
        mark22();
        mark23();
        mark24();
    }

    private static void mark20() {
        Due.says("Terms", "1 MARK: 20 lent to all TIMES: TICKS gone.");
        asked(winding(), 1, 6, 20);
        asked(after(15, 3, 5), 1, 5, 20);
    }

    private static void mark21() {
        Due.says("Terms", "21 of UNWINDING ones: what 20 gives, and v without its sign.");
        asked(unwinding(), 1, 1 + 3, 21, 20);
        asked(after(-15, 4, 2), 1, 2 + 4, 21, 20);
    }

    private static void mark22() {
        Due.says("Terms", "22 of OVER ones: what 20 gives, and 1000.");
        asked(over(), 1, 1009, 22, 20);
    }

    private static void mark23() {
        Due.says("Terms", "23 of DEAD ones: what 20 gives, and SIZE.");
        asked(dead(), 1, 12 - 20, 23, 20, 14, 10);
        HummingDisc x = Due.of(BOX);
        x.begin(0, 0, 0, -7);
        asked(x, 1, -7, 23, 20, 14, 10);
    }

    private static void mark24() {
        Due.says("Terms", "24 of SNAPPED ones: 0 less what 23 gives.");
        asked(snapped(), 1, 20 - 6, 24, 23, 20, 14, 10);
    }

    private static void bodies() {
        bodiesLeaveTheirNumbers();
        theFirst16();
        theBodyToldForTheKind();
        theNearestKind();
        theLentOne();
        askedAnew();
    }

    private static void bodiesLeaveTheirNumbers() {
        Due.says("Terms", "ASKS of TIMES, by BODIES, each of which leaves its number in THE TRACE as it begins");
        asked(unwinding(), 0, 16, 11, 10, 21, 20);
        asked(dead(), 1, -8, 23, 20, 14, 10);
    }

    private static void theFirst16() {
        Due.says("Terms", "(the first 16):");
        HummingDisc x = over();
        x.ask(0);
        for (int i = 5; i <= 17; i++) Due.is("trace(" + i + ") of five", x.trace(i), Due.NONE);
    }

    private static void theBodyToldForTheKind() {
        Due.says("Terms", "(Of an ask the BODY told for the KIND begins,");
        asked(unwinding(), 1, 4, 21, 20);
        asked(over(), 0, -1994, 13, 12, 10, 22, 20);
    }

    private static void theNearestKind() {
        Due.says("Terms", "else that of the nearest KIND that it is, too,");
        asked(snapped(), 0, -20, 14, 10);
    }

    private static void theLentOne() {
        Due.says("Terms", "else the one that is lent;");
        asked(winding(), 1, 6, 20);
    }

    private static void askedAnew() {
        Due.says("Terms", "SIZE, MARK within others are asked of the same TIME anew.)");
        asked(over(), 0, 2 * (12 - 1009), 13, 12, 10, 22, 20);
        asked(snapped(), 1, 14, 24, 23, 20, 14, 10);
    }

    // ---- promises 26 to 30

    private static void kind() {
        kindAsItIsTold();
        kindNoRun();
    }

    private static void kindAsItIsTold() {
        Due.says("Promise 26", "The KIND of the TIME, as it is told (1 to 5).");
        HummingDisc[] all = {unwinding(), winding(), dead(), over(), snapped()};
        for (int i = 0; i < 5; i++) Due.is("kind()", all[i].kind(), i + 1);
    }

    private static void kindNoRun() {
        Due.says("Promise 26", "STATE: no RUN.");
        Due.is("without a BOX", new HummingDisc().kind(), Due.STATE);
        HummingDisc x = Due.of(BOX);
        Due.is("with a BOX", x.kind(), Due.STATE);
        x.begin(0, 0, 0, 1);
        Due.read(x, BOX);
        Due.is("behind a new BOX", x.kind(), Due.STATE);
    }

    private static void as() {
        asTicks();
        asNoRun();
        asBad();
        asNoSuchOne();
        asWhatThatIsOneOf();
    }

    private static void asTicks() {
        Due.says("Promise 27", "It is taken as one of a KIND (0 .. 5): TICKS.");
        HummingDisc[] all = {unwinding(), winding(), dead(), over(), snapped()};
        int[] ticks = {1, 6, 12, 9, 6};
        for (int i = 0; i < 5; i++) {
            Due.is("as(" + (i + 1) + ")", all[i].as(i + 1), ticks[i]);
            Due.is("as(0)", all[i].as(0), ticks[i]);
            Due.is("kind() stays", all[i].kind(), i + 1);
        }
    }

    private static void asNoRun() {
        Due.says("Promise 27", "STATE: no RUN (ahead of BAD);");
        Due.is("as(0)", new HummingDisc().as(0), Due.STATE);
        Due.is("as(0) with a BOX", Due.of(BOX).as(0), Due.STATE);
        for (int kind : new int[] {-1, 6, Due.LEAST, Due.GREATEST}) {
            Due.is("as(" + kind + ")", Due.of(BOX).as(kind), Due.STATE);
        }
    }

    private static void asBad() {
        Due.says("Promise 27", "(ahead of BAD); BAD;");
        HummingDisc[] all = {unwinding(), winding(), dead(), over(), snapped()};
        for (int kind : new int[] {-1, 6, Due.LEAST, Due.GREATEST}) {
            Due.is("as(" + kind + ")", all[0].as(kind), Due.BAD);
        }
    }

    private static void asNoSuchOne() {
        Due.says("Promise 27", "KIND: by what it is told as it is no such one");
        HummingDisc[] all = {unwinding(), winding(), dead(), over(), snapped()};
        int[][] not = {{2, 3, 4, 5}, {1, 3, 4, 5}, {1, 2, 4, 5}, {1, 3, 5}, {1, 2, 4}};
        for (int i = 0; i < 5; i++) {
            for (int kind : not[i]) Due.is("as(" + kind + ") of one told as " + (i + 1), all[i].as(kind), Due.KIND);
        }
    }

    private static void asWhatThatIsOneOf() {
        Due.says("Promise 27", "(told as a KIND, it is what that is one of, too).");
        HummingDisc[] all = {unwinding(), winding(), dead(), over(), snapped()};
        Due.is("OVER as WINDING", all[3].as(2), 9);
        Due.is("SNAPPED as DEAD", all[4].as(3), 6);
    }

    private static void ask() {
        askOfIt();
        askNoRun();
        askBad();
        traceIsEmptyAhead();
        traceStaysIfRefused();
    }

    private static void askOfIt() {
        Due.says("Promise 28", "An ASK (0, 1) of it.");
        HummingDisc x = unwinding();
        Due.is("SIZE", x.ask(0), 16);
        Due.is("MARK", x.ask(1), 4);
        Due.are("the RUN stays", Due.turnsAndPace(x, 0), 12, -3);
    }

    private static void askNoRun() {
        Due.says("Promise 28", "STATE: no RUN (ahead of BAD);");
        for (int what : new int[] {0, 1, -1, 2, Due.LEAST, Due.GREATEST}) {
            Due.is("ask(" + what + ") without a BOX", new HummingDisc().ask(what), Due.STATE);
            Due.is("ask(" + what + ") with a BOX", Due.of(BOX).ask(what), Due.STATE);
        }
    }

    private static void askBad() {
        Due.says("Promise 28", "(ahead of BAD); BAD.");
        HummingDisc x = unwinding();
        for (int what : new int[] {-1, 2, Due.LEAST, Due.GREATEST}) Due.is("ask(" + what + ")", x.ask(what), Due.BAD);
    }

    private static void traceIsEmptyAhead() {
        Due.says("Promise 28", "THE TRACE is empty ahead of it");
        HummingDisc x = unwinding();
        x.ask(0);
        Due.are("of SIZE", Due.trace(x), 11, 10, 21, 20);
        x.ask(1);
        Due.are("of MARK, and nothing else", Due.trace(x), 21, 20);
    }

    private static void traceStaysIfRefused() {
        Due.says("Promise 28", "(where that is refused it stays).");
        HummingDisc x = unwinding();
        x.ask(1);
        x.ask(2);
        Due.are("BAD", Due.trace(x), 21, 20);
        Due.read(x, BOX);
        Due.is("without a RUN", x.ask(0), Due.STATE);
        Due.are("STATE", Due.trace(x), 21, 20);
    }

    private static void trace() {
        traceNumber();
        traceNone();
    }

    private static void traceNumber() {
        Due.says("Promise 29", "Number i of THE TRACE;");
        HummingDisc x = snapped();
        x.ask(1);
        int[] due = {24, 23, 20, 14, 10};
        for (int i = 0; i < 5; i++) Due.is("trace(" + i + ")", x.trace(i), due[i]);
        x.begin(0, 0, 0, 1);
        x.go(3);
        Due.is("it stays until the next ask", x.trace(4), 10);
    }

    private static void traceNone() {
        Due.says("Promise 29", "NONE.");
        HummingDisc x = snapped();
        for (int i : new int[] {-1, 5, 15, 16, Due.LEAST, Due.GREATEST}) {
            Due.is("trace(" + i + ")", x.trace(i), Due.NONE);
        }
        Due.is("trace(0) ahead of an ask", new HummingDisc().trace(0), Due.NONE);
    }

    private static void count() {
        countRows();
        countDiscs();
        countThreads();
        countHands();
        countRules();
        countBytes();
        countBad();
    }

    private static void countRows() {
        Due.says("Promise 30", "How many: 0 ROWS,");
        HummingDisc x = Due.of("disc 1 1 1; disc 1 1 1; thread 1 1 1 1; thread 1 1 1 1; thread 1 1 1 1;"
            + "hand; when pace below 1 pull 1; hand; hand; hand; when pace below 1 pull 1; when pace above 1 pull 1;");
        for (int row = 2; row < 8; row++) x.row(row, 0, 0);
        x.drop(4);
        x.feed(0, 7);
        Due.is("count(0)", x.count(0), 5);
    }

    private static void countDiscs() {
        Due.says("Promise 30", "1 DISCS,");
        HummingDisc x = Due.of("disc 1 1 1; disc 1 1 1; thread 1 1 1 1; thread 1 1 1 1; thread 1 1 1 1;"
            + "hand; when pace below 1 pull 1; hand; hand; hand; when pace below 1 pull 1; when pace above 1 pull 1;");
        for (int row = 2; row < 8; row++) x.row(row, 0, 0);
        x.drop(4);
        x.feed(0, 7);
        Due.is("count(1)", x.count(1), 2);
    }

    private static void countThreads() {
        Due.says("Promise 30", "2 THREADS,");
        HummingDisc x = Due.of("disc 1 1 1; disc 1 1 1; thread 1 1 1 1; thread 1 1 1 1; thread 1 1 1 1;"
            + "hand; when pace below 1 pull 1; hand; hand; hand; when pace below 1 pull 1; when pace above 1 pull 1;");
        for (int row = 2; row < 8; row++) x.row(row, 0, 0);
        x.drop(4);
        x.feed(0, 7);
        Due.is("count(2)", x.count(2), 3);
    }

    private static void countHands() {
        Due.says("Promise 30", "3 HANDS,");
        HummingDisc x = Due.of("disc 1 1 1; disc 1 1 1; thread 1 1 1 1; thread 1 1 1 1; thread 1 1 1 1;"
            + "hand; when pace below 1 pull 1; hand; hand; hand; when pace below 1 pull 1; when pace above 1 pull 1;");
        for (int row = 2; row < 8; row++) x.row(row, 0, 0);
        x.drop(4);
        x.feed(0, 7);
        Due.is("count(3)", x.count(3), 4);
    }

    private static void countRules() {
        Due.says("Promise 30", "4 rules of all,");
        HummingDisc x = Due.of("disc 1 1 1; disc 1 1 1; thread 1 1 1 1; thread 1 1 1 1; thread 1 1 1 1;"
            + "hand; when pace below 1 pull 1; hand; hand; hand; when pace below 1 pull 1; when pace above 1 pull 1;");
        for (int row = 2; row < 8; row++) x.row(row, 0, 0);
        x.drop(4);
        x.feed(0, 7);
        Due.is("count(4)", x.count(4), 3);
    }

    private static void countBytes() {
        Due.says("Promise 30", "5 bytes on the tape.");
        HummingDisc x = Due.of("disc 1 1 1; disc 1 1 1; thread 1 1 1 1; thread 1 1 1 1; thread 1 1 1 1;"
            + "hand; when pace below 1 pull 1; hand; hand; hand; when pace below 1 pull 1; when pace above 1 pull 1;");
        for (int row = 2; row < 8; row++) x.row(row, 0, 0);
        x.drop(4);
        x.feed(0, 7);
        Due.is("count(5)", x.count(5), 7);
    }

    private static void countBad() {
        Due.says("Promise 30", "BAD.");
        HummingDisc x = Due.of("disc 1 1 1; disc 1 1 1; thread 1 1 1 1; thread 1 1 1 1; thread 1 1 1 1;"
            + "hand; when pace below 1 pull 1; hand; hand; hand; when pace below 1 pull 1; when pace above 1 pull 1;");
        for (int row = 2; row < 8; row++) x.row(row, 0, 0);
        x.drop(4);
        x.feed(0, 7);
        for (int what : new int[] {-1, 6, Due.LEAST, Due.GREATEST}) {
            Due.is("count(" + what + ")", x.count(what), Due.BAD);
            Due.is("count(" + what + ") of a new object", new HummingDisc().count(what), Due.BAD);
        }
        for (int what = 0; what < 6; what++) {
            Due.is("count(" + what + ") of a new object", new HummingDisc().count(what), 0);
        }
    }
}
