import java.util.function.ToIntFunction;

/** What stands ahead of the promises (numbers, refusals), promise 31: status. Each test is for one sentence. */
public final class RefusalsTest {
    // On these threads SHORT of w is w less 1, so that a disc of WEIGHT 10 gets F more pace a TICK.
    private static final String BOX = "disc 10 0 1; disc 30 0 3; thread 1 1 20 999; thread 1 1 20 5;"
        + "hand; when tick above 0 pull 3;";

    public static void main(String[] args) {
        manyCalls();
        numbers();
        refusals();
        changesNothing();
        status();
        Due.end();
    }

    private static void manyCalls() {
        Due.says("What it is", "An object is used for at most 512 calls after it has been made");
        HummingDisc x = new HummingDisc();
        for (int i = 1; i < 512; i++) Due.is("call " + i, x.row(i % 8, i % 3, i % 41), i % 41);
        Due.is("call 512", x.count(0), 8);
        x = Due.of(BOX);
        x.begin(0, 0, 0, 20);
        for (int i = 0; i < 480; i++) Due.is("go(200) again", x.go(200), 200);
        Due.is("TICKS", x.now(2), 96000);
    }

    private static void numbers() {
        turnsAndPacesBelow0();
        cutTowards0();
    }

    private static void turnsAndPacesBelow0() {
        Due.says("Terms", "Numbers go from 0 on, but turns, paces.");
        HummingDisc x = Due.of(BOX);
        Due.is("turns below 0", x.begin(0, 0, 0, -20), 1);
        Due.pulls(x, 3);
        Due.are("turns below 0, a pace above", Due.turnsAndPace(x, 0), -17, 3);
        x.begin(0, 0, 0, 20);
        Due.pulls(x, 3);
        Due.are("turns above 0, a pace below", Due.turnsAndPace(x, 0), 17, -3);
        Due.is("a DISC below 0", x.begin(-1, 0, 0, 1), Due.BAD);
        Due.is("a number told below 0", x.shorter(0, -1, 0), Due.BAD);
    }

    private static void cutTowards0() {
        Due.says("Terms", "All that is divided is cut towards 0.");
        HummingDisc x = Due.of(BOX);
        x.begin(1, 0, 0, 20);
        Due.pulls(x, 5);
        Due.is("50 by 30, a way of -1", x.now(1), -1);
        x.begin(1, 0, 0, -20);
        Due.pulls(x, 5);
        Due.is("50 by 30, a way of 1", x.now(1), 1);
        Due.row(x, 0, 1, 8, 8);
        Due.is("8 by 3", x.sound(1, 0, 0, 2, 1), 2);
    }

    private static void refusals() {
        theFirstThatFits();
        butAsTold();
        bad();
        stateAndFull();
        firstFindingInTime();
    }

    private static void theFirstThatFits() {
        Due.says("Terms", "Refusals are answers, the first of these that fits,");
        HummingDisc x = new HummingDisc();
        Due.is("BAD ahead of STATE: go", x.go(0), Due.BAD);
        Due.is("BAD ahead of STATE: pulls", x.pulls(8, 0, 1), Due.BAD);
        Due.is("BAD ahead of STATE: now", x.now(9), Due.BAD);
        Due.is("BAD ahead of STATE: image", x.image(2), Due.BAD);
        Due.is("BAD ahead of STATE: restore", x.restore(2), Due.BAD);
        Due.is("STATE ahead of FINDINGS", x.pulls(0, 0, 1), Due.STATE);
        Due.feed(x, " ".repeat(500));
        Due.is("BAD ahead of FULL", x.feed(0, 9), Due.BAD);
        Due.is("BAD ahead of FINDINGS: sound", x.sound(0, 0, 0, 2, 0), Due.BAD);
        Due.is("BAD ahead of FINDINGS: tune", x.tune(0, 0, 1, 0, 0, 1), Due.BAD);
        Due.is("BAD ahead of FINDINGS: copy", x.copy(0, 0, 8, 0, 1), Due.BAD);
        Due.is("BAD ahead of FINDINGS: row", x.row(0, 3, -1), Due.BAD);
    }

    private static void butAsTold() {
        Due.says("Terms", "but as told:");
        HummingDisc x = new HummingDisc();
        Due.is("STATE ahead of BAD: best", x.best(0, 100, 0), Due.STATE);
        Due.is("STATE ahead of BAD: as", x.as(6), Due.STATE);
        Due.is("STATE ahead of BAD: ask", x.ask(2), Due.STATE);
        x = Due.of(BOX);
        x.begin(0, 0, 0, 20);
        Due.row(x, 0, 0, 1, -1);
        Due.is("PLACE ahead of a bad ITEM: pulls", x.pulls(0, 1, 2), Due.PLACE);
        Due.is("PLACE ahead of a bad ITEM: sound", x.sound(0, 0, 1, 2, 0), Due.PLACE);
        Due.is("PLACE ahead of a bad ITEM: tune", x.tune(0, 0, 1, 0, 1, 2), Due.PLACE);
    }

    private static void bad() {
        Due.says("Terms", "BAD (a number is not as told; there is no such thing),");
        HummingDisc x = Due.of(BOX);
        Due.is("a number that is not as told", x.shorter(0, 801, 0), -1000001);
        Due.is("no such THREAD", x.shorter(2, 800, 0), -1000001);
        Due.is("no such DISC", x.wobble(2, 1), -1000001);
        Due.is("no such HAND", x.begin(0, 0, 1, 1), -1000001);
        Due.is("no such ROW", x.drop(8), -1000001);
    }

    private static void stateAndFull() {
        state();
        full();
    }

    private static void state() {
        Due.says("Terms", "STATE (as told),");
        HummingDisc x = new HummingDisc();
        Due.is("no RUN", x.go(1), -1000002);
        Due.is("no BOX", x.image(0), -1000002);
    }

    private static void full() {
        Due.says("Terms", "FULL (as told),");
        HummingDisc x = new HummingDisc();
        Due.feed(x, " ".repeat(499));
        Due.is("two bytes more than 499", x.feed(0, 2), -1000003);
    }

    private static void firstFindingInTime() {
        Due.says("Terms", "then FINDINGS, of several the first in time:");
        HummingDisc x = Due.of(BOX);
        x.begin(0, 0, 0, 20);
        Due.is("set: a missing ROW ahead of its place", x.set(0, 40, 1), Due.NULL);
        Due.is("pulls: a missing ROW ahead of its place", x.pulls(0, -1, 1), Due.NULL);
        Due.is("sound: a missing ROW ahead of its place", x.sound(0, 0, 39, 2, 0), Due.NULL);
        Due.is("tune: a missing ROW ahead of its place", x.tune(0, 0, 1, 0, 39, 2), Due.NULL);
        x.row(0, 1, 1);
        Due.is("copy: a missing ROW ahead of two LANES, and of a place", x.copy(0, 5, 1, 5, 5), Due.NULL);
        x.row(1, 2, 1);
        Due.is("copy: two LANES ahead of a place", x.copy(0, 5, 1, 5, 5), Due.STORE);
    }

    // ---- what is refused, or found

    /** BOX, RUN, ROWS, a tape, a trace, forces and an IMAGE. */
    private static HummingDisc withAll() {
        HummingDisc x = Due.of(BOX);
        Due.row(x, 0, 0, 1, -2, 3);
        Due.row(x, 1, 1, 300, 32767);
        x.tune(0, 0, 9, 1, 0, 1);
        x.begin(0, 0, 0, 5);
        x.image(0);
        x.begin(0, 0, 0, 20);
        x.go(3);
        x.ask(1);
        Due.read(x, "disc 0");
        Due.feed(x, "disc 1");
        return x;
    }

    private static void stays(String call, int want, ToIntFunction<HummingDisc> made) {
        HummingDisc x = withAll();
        String ahead = Due.state(x);
        Due.is(call, made.applyAsInt(x), want);
        Due.areAlike("what is behind " + call, Due.state(x), ahead);
    }

    private static void changesNothing() {
        Due.says("Terms", "What is refused, or found, changes nothing but status().");
        stays("row(0, 0, 41)", Due.BAD, x -> x.row(0, 0, 41));
        stays("row(2, 0, -1)", Due.SIZE, x -> x.row(2, 0, -1));
        stays("set(2, 0, 1)", Due.NULL, x -> x.set(2, 0, 1));
        stays("set(0, 3, 1)", Due.PLACE, x -> x.set(0, 3, 1));
        stays("copy(0, 0, 1, 0, 1)", Due.STORE, x -> x.copy(0, 0, 1, 0, 1));
        stays("drop(2)", Due.NULL, x -> x.drop(2));
        stays("feed(0, 9)", Due.BAD, x -> x.feed(0, 9));
        stays("shorter(0, 801, 0)", Due.BAD, x -> x.shorter(0, 801, 0));
        stays("begin(0, 0, 0, 21)", Due.BAD, x -> x.begin(0, 0, 0, 21));
        stays("begin(2, 0, 0, 2)", Due.BAD, x -> x.begin(2, 0, 0, 2));
        stays("go(201)", Due.BAD, x -> x.go(201));
        stays("pulls(0, 0, 2) of -2", Due.BAD, x -> x.pulls(0, 0, 2));
        stays("pulls(0, 2, 2)", Due.PLACE, x -> x.pulls(0, 2, 2));
        stays("pulls(2, 0, 1)", Due.NULL, x -> x.pulls(2, 0, 1));
        stays("now(9)", Due.BAD, x -> x.now(9));
        stays("tune(0, 0, 9, 0, 1, 1) of -2", Due.BAD, x -> x.tune(0, 0, 9, 0, 1, 1));
        stays("tune(0, 0, 9, 0, 2, 2)", Due.PLACE, x -> x.tune(0, 0, 9, 0, 2, 2));
        stays("tune(0, 0, 21, 1, 0, 1)", Due.BAD, x -> x.tune(0, 0, 21, 1, 0, 1));
        stays("image(2)", Due.BAD, x -> x.image(2));
        stays("restore(1)", Due.STATE, x -> x.restore(1));
        stays("as(6)", Due.BAD, x -> x.as(6));
        stays("as(5)", Due.KIND, x -> x.as(5));
        stays("ask(2)", Due.BAD, x -> x.ask(2));
        stays("trace(99)", Due.NONE, x -> x.trace(99));
        fullChangesNothing();
        refusedImageStays();
    }

    private static void fullChangesNothing() {
        HummingDisc x = withAll();
        Due.feed(x, " ".repeat(488));
        String ahead = Due.state(x);
        Due.is("feed() beyond the end", x.feed(0, 7), Due.FULL);
        Due.areAlike("what is behind FULL", Due.state(x), ahead);
    }

    private static void refusedImageStays() {
        HummingDisc x = withAll();
        x.image(2);
        x.image(-1);
        x.restore(0);
        Due.is("IMAGE 0 is what it was", x.now(0), 5);
        Due.is("there is no IMAGE 1", x.restore(1), Due.STATE);
    }

    // ---- promise 31

    private static void status() {
        callsWithARow();
        andAs();
        notOthers();
        notBadStateFull();
        theNumberOfItsFinding();
        itHadNone();
        thereWasNone();
    }

    private static void callsWithARow() {
        Due.says("Promise 31", "Of the latest call with a ROW,");
        HummingDisc x = Due.of(BOX);
        x.begin(0, 0, 0, 20);
        x.row(1, 0, 3);
        statusBehind(x, "row", x.row(0, 0, -1), 4);
        statusBehind(x, "row", x.row(0, 0, 3), 0);
        statusBehind(x, "set", x.set(0, 3, 0), 2);
        statusBehind(x, "set", x.set(0, 2, 0), 0);
        statusBehind(x, "copy", x.copy(0, 0, 1, 3, 1), 2);
        statusBehind(x, "copy", x.copy(0, 0, 1, 2, 1), 0);
        statusBehind(x, "drop", x.drop(2), 1);
        statusBehind(x, "drop", x.drop(1), 0);
        statusBehind(x, "pulls", x.pulls(0, 3, 1), 2);
        statusBehind(x, "pulls", x.pulls(0, 2, 1), 0);
        statusBehind(x, "sound", x.sound(0, 0, 2, 2, 0), 2);
        statusBehind(x, "sound", x.sound(0, 0, 1, 2, 0), 0);
        statusBehind(x, "tune", x.tune(0, 0, 9, 0, 2, 2), 2);
        statusBehind(x, "tune", x.tune(0, 0, 9, 0, 1, 2), 0);
    }

    private static void statusBehind(HummingDisc x, String call, int answer, int want) {
        Due.is("status() behind " + call + "() that answered " + answer, x.status(), want);
    }

    private static void andAs() {
        Due.says("Promise 31", "or as(),");
        HummingDisc x = Due.of(BOX);
        x.begin(0, 0, 0, 20);
        statusBehind(x, "as", x.as(1), 3);
        statusBehind(x, "as", x.as(3), 0);
        x.drop(0);
        statusBehind(x, "as", x.as(0), 0);
    }

    private static void notOthers() {
        Due.says("Promise 31", "Of the latest call with a ROW, or as(),");
        HummingDisc x = withAll();
        x.set(0, 3, 0);
        statusBehind(x, "feed", x.feed(' ', 1), 2);
        statusBehind(x, "shorter", x.shorter(0, 1, 0), 2);
        statusBehind(x, "go", x.go(1), 2);
        statusBehind(x, "now", x.now(0), 2);
        statusBehind(x, "greatest", x.greatest(0, 0, 1, 1, 1, 0), 2);
        statusBehind(x, "best", x.best(1, 1, 1), 2);
        statusBehind(x, "from", x.from(0, 0, 1, 1, 1), 2);
        statusBehind(x, "late", x.late(0, 0, 1, 1, 1), 2);
        statusBehind(x, "parts", x.parts(0, 0, 1, 1, 1), 2);
        statusBehind(x, "lamp", x.lamp(0, 0, 1, 1, 1), 2);
        statusBehind(x, "wobble", x.wobble(0, 1), 2);
        statusBehind(x, "forces", x.forces(), 2);
        statusBehind(x, "kind", x.kind(), 2);
        statusBehind(x, "ask", x.ask(0), 2);
        statusBehind(x, "trace", x.trace(0), 2);
        statusBehind(x, "count", x.count(0), 2);
        statusBehind(x, "fault", x.fault(), 2);
        statusBehind(x, "image", x.image(1), 2);
        statusBehind(x, "restore", x.restore(1), 2);
        statusBehind(x, "begin", x.begin(0, 0, 0, 1), 2);
        statusBehind(x, "box", x.box(), 2);
        Due.is("status() itself", x.status(), 2);
        statusBehind(x, "box", Due.read(x, BOX), 2);
    }

    private static void notBadStateFull() {
        Due.says("Promise 31", "that was not BAD, STATE, FULL:");
        HummingDisc x = new HummingDisc();
        x.drop(0);
        statusBehind(x, "pulls", x.pulls(0, 0, 1), 1);
        statusBehind(x, "as", x.as(0), 1);
        Due.read(x, BOX);
        x.begin(0, 0, 0, 20);
        x.drop(0);
        statusBehind(x, "row", x.row(8, 0, 1), 1);
        statusBehind(x, "row", x.row(0, 0, 41), 1);
        statusBehind(x, "set", x.set(8, 0, 1), 1);
        statusBehind(x, "copy", x.copy(0, 0, 8, 0, 1), 1);
        statusBehind(x, "drop", x.drop(8), 1);
        statusBehind(x, "pulls", x.pulls(8, 0, 1), 1);
        statusBehind(x, "sound", x.sound(0, 8, 0, 2, 0), 1);
        statusBehind(x, "tune", x.tune(0, 0, 1, 8, 0, 1), 1);
        statusBehind(x, "as", x.as(6), 1);
        Due.feed(x, " ".repeat(500));
        statusBehind(x, "feed", x.feed(0, 1), 1);
        Due.row(x, 0, 2, -1, -1);
        x.set(0, 2, 0);
        statusBehind(x, "pulls of a bad ITEM", x.pulls(0, 0, 1), 2);
        statusBehind(x, "sound of a bad ITEM", x.sound(0, 0, 0, 2, 0), 2);
        statusBehind(x, "tune of a bad ITEM", x.tune(0, 0, 1, 0, 0, 1), 2);
    }

    private static void theNumberOfItsFinding() {
        Due.says("Promise 31", "the number of its FINDING;");
        HummingDisc x = Due.of(BOX);
        x.begin(0, 0, 0, 20);
        x.row(1, 0, 1);
        x.row(2, 1, 1);
        statusBehind(x, "drop", x.drop(0), 1);
        statusBehind(x, "set", x.set(1, 1, 0), 2);
        statusBehind(x, "as", x.as(5), 3);
        statusBehind(x, "row", x.row(0, 0, -1), 4);
        statusBehind(x, "copy", x.copy(1, 0, 2, 0, 1), 5);
    }

    private static void itHadNone() {
        Due.says("Promise 31", "0: it had none,");
        HummingDisc x = new HummingDisc();
        x.drop(0);
        x.row(0, 0, 0);
        Due.is("status()", x.status(), 0);
        x.drop(1);
        x.drop(0);
        Due.is("status()", x.status(), 0);
    }

    private static void thereWasNone() {
        Due.says("Promise 31", "or there was none.");
        HummingDisc x = new HummingDisc();
        Due.is("status() of a new object", x.status(), 0);
        x.row(8, 0, 0);
        Due.is("status() behind BAD alone", x.status(), 0);
        new HummingDisc().drop(0);
        Due.is("status() of another object", x.status(), 0);
    }
}
