/** Promises 24 and 25: image, restore. Each test is for one sentence, or a part of one. */
public final class ImagesTest {
    private static final String BOX = "disc 10 0 3; thread 1 1 20 5; hand; when tick above -1 pull 2;";
    private static final String OTHER = "disc 20 0 1; disc 30 0 1; thread 99 9 30 9; hand; hand; hand; when give below 0 pull 7;";
    private static final int[] NO_IMAGES = {-1, 2, Due.LEAST, Due.GREATEST};

    public static void main(String[] args) {
        twoImages();
        keptOfBoxAndRun();
        imageRefusals();
        boxAndRunAsKept();
        allOfARun();
        withoutRun();
        whatIsNotKept();
        restoreRefusals();
        Due.end();
    }

    private static void twoImages() {
        Due.says("Promise 24", "An IMAGE (0, 1)");
        HummingDisc x = Due.of(BOX);
        x.begin(0, 0, 0, 20);
        x.image(0);
        x.go(2);
        x.image(1);
        x.go(2);
        x.restore(0);
        Due.are("the first", Due.turnsAndPace(x, 0), 20, 0);
        x.restore(1);
        Due.are("the second", Due.turnsAndPace(x, 0), 14, -4);
        x.image(0);
        x.begin(0, 0, 0, 1);
        x.restore(0);
        Due.are("the first, kept anew", Due.turnsAndPace(x, 0), 14, -4);
    }

    private static void keptOfBoxAndRun() {
        Due.says("Promise 24", "is kept of BOX and RUN: 1.");
        HummingDisc x = Due.of(BOX);
        Due.is("image(0)", x.image(0), 1);
        x.begin(0, 0, 0, 10);
        Due.is("image(1)", x.image(1), 1);
        String ahead = Due.state(x);
        Due.is("image(1) again", x.image(1), 1);
        Due.areAlike("what is", Due.state(x), ahead);
        x.go(3);
        Due.read(x, OTHER);
        x.restore(1);
        Due.are("what goes on behind it does not go on in it", Due.turnsAndPace(x, 0), 10, 0);
        Due.is("nor is its BOX another", x.count(1), 1);
    }

    private static void imageRefusals() {
        imageBad();
        imageNoBox();
    }

    private static void imageBad() {
        Due.says("Promise 24", "BAD;");
        HummingDisc x = Due.of(BOX);
        for (int k : NO_IMAGES) {
            Due.is("image(" + k + ")", x.image(k), Due.BAD);
            Due.is("image(" + k + ") without a BOX", new HummingDisc().image(k), Due.BAD);
        }
    }

    private static void imageNoBox() {
        Due.says("Promise 24", "STATE: no BOX.");
        HummingDisc x = new HummingDisc();
        Due.is("image(0)", x.image(0), Due.STATE);
        Due.is("image(1)", x.image(1), Due.STATE);
        Due.read(x, "disc");
        Due.is("behind a FAULT", x.image(0), Due.STATE);
        Due.is("none was kept", x.restore(0), Due.STATE);
    }

    private static void boxAndRunAsKept() {
        Due.says("Promise 25", "BOX and RUN are as an IMAGE kept them: 1.");
        HummingDisc x = Due.of(BOX);
        x.begin(0, 0, 0, 10);
        x.go(3);
        int[] then = Due.now(x);
        Due.are("then", then, -2, -6, 3, 0, 1, 2, 6, 18, 1);
        x.image(0);
        x.go(7);
        Due.is("another BOX", Due.read(x, OTHER), 2);
        Due.is("and RUN", x.begin(1, 0, 2, 9), 1);
        x.go(4);
        Due.is("restore(0)", x.restore(0), 1);
        Due.are("the RUN", Due.now(x), then);
        int[] count = {0, 1, 1, 1, 1, 0};
        for (int what = 0; what < 6; what++) Due.is("count(" + what + ")", x.count(what), count[what]);
        Due.is("the DISC", x.wobble(0, 1), 33);
        Due.is("no other DISC", x.wobble(1, 1), Due.BAD);
        Due.is("the THREAD", x.shorter(0, 20, 0), 19);
        x.go(3);
        Due.are("its DISC, THREAD, HAND go on", Due.now(x), -8, 0, 6, 0, 7, 2, 6, 0, 1);
        Due.is("restore(0) again", x.restore(0), 1);
        Due.are("the IMAGE did not go on", Due.now(x), then);
    }

    private static void allOfARun() {
        Due.says("Promise 25", "BOX and RUN are as an IMAGE kept them: 1.");
        HummingDisc x = Due.of(BOX);
        x.begin(0, 0, 0, 20);
        Due.is("to the SNAP", Due.pulls(x, 6, 0, 0, 0, 0, 0, 0, 0, 0, 0), 7);
        int[] snapped = Due.now(x);
        x.image(0);
        x.begin(0, 0, 0, 20);
        x.restore(0);
        Due.are("a SNAPPED RUN", Due.now(x), snapped);
        Due.is("does not go on", x.go(1), 0);
        Due.is("its kind", x.kind(), 5);

        HummingDisc y = Due.of("disc 10 0 1; thread 1 1 20 999; hand; when give below -2 pull 9;");
        y.begin(0, 0, 0, 20);
        Due.pulls(y, 3);
        y.image(0);
        y.begin(0, 0, 0, 17);
        y.restore(0);
        y.go(1);
        Due.is("the HAND feels the give of the TICK ahead of the IMAGE", y.now(5), 9);
    }

    private static void withoutRun() {
        Due.says("Promise 25", "BOX and RUN are as an IMAGE kept them");
        HummingDisc x = Due.of(BOX);
        x.image(0);
        x.begin(0, 0, 0, 10);
        Due.is("restore(0)", x.restore(0), 1);
        Due.is("there was no RUN: kind()", x.kind(), Due.STATE);
        Due.is("there was no RUN: go(1)", x.go(1), Due.STATE);
        Due.is("there was no RUN: now(0)", x.now(0), Due.STATE);
        Due.is("there was a BOX", x.count(1), 1);
    }

    private static void whatIsNotKept() {
        Due.says("Promise 25", "BOX and RUN are");
        HummingDisc x = Due.of(BOX);
        Due.row(x, 0, 1, 9, 300);
        x.begin(0, 0, 0, 10);
        x.image(0);
        x.ask(0);
        x.row(1, 0, 1);
        x.set(0, 0, 8);
        x.tune(0, 0, 20, 0, 1, 1);
        int forces = x.forces();
        x.set(0, 2, 0);
        Due.read(x, "disc 0");
        Due.feed(x, "disc 1");
        x.restore(0);
        Due.is("ROWS", x.count(0), 2);
        Due.is("the tape", x.count(5), 6);
        Due.is("fault()", x.fault(), 2);
        Due.is("forces()", x.forces(), forces);
        Due.is("status()", x.status(), 2);
        Due.are("THE TRACE", Due.trace(x), 14, 10);
        Due.read(x, "");
        x.row(2, 1, 2);
        x.copy(0, 0, 2, 0, 1);
        Due.is("an ITEM: 8 by 3", x.sound(0, 2, 0, 2, 1), 2);
    }

    private static void restoreRefusals() {
        restoreBad();
        restoreNoneKept();
    }

    private static void restoreBad() {
        Due.says("Promise 25", "BAD;");
        HummingDisc x = Due.of(BOX);
        x.image(0);
        for (int k : NO_IMAGES) {
            Due.is("restore(" + k + ")", x.restore(k), Due.BAD);
            Due.is("restore(" + k + ") without an IMAGE", new HummingDisc().restore(k), Due.BAD);
        }
    }

    private static void restoreNoneKept() {
        Due.says("Promise 25", "STATE: none was kept.");
        HummingDisc x = Due.of(BOX);
        x.image(0);
        Due.is("restore(1)", x.restore(1), Due.STATE);
        Due.is("restore(0)", x.restore(0), 1);
        Due.is("restore(0) of a new object", new HummingDisc().restore(0), Due.STATE);
        Due.is("restore(0) with a BOX alone", Due.of(BOX).restore(0), Due.STATE);
    }
}
