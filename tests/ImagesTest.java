/** Promises 24 and 25: image, restore. */
public final class ImagesTest {
    private static final String BOX = "disc 10 0 3; thread 1 1 20 5; hand; when tick above -1 pull 2;";
    private static final String OTHER = "disc 10 0 1; disc 10 0 1; thread 9 9 9 9; hand; hand; hand;";

    public static void main(String[] args) {
        refusals();
        boxAndRun();
        twoImages();
        withoutRun();
        whatStays();
        Due.end();
    }

    private static void refusals() {
        HummingDisc x = new HummingDisc();
        Due.is("image(2), ahead of STATE", x.image(2), Due.BAD);
        Due.is("image(-1), ahead of STATE", x.image(-1), Due.BAD);
        Due.is("image(1)", x.image(1), Due.STATE);
        Due.is("restore(2), ahead of STATE", x.restore(2), Due.BAD);
        Due.is("restore(-1), ahead of STATE", x.restore(-1), Due.BAD);
        Due.is("restore(0)", x.restore(0), Due.STATE);
        Due.read(x, BOX);
        Due.is("image(1)", x.image(1), 1);
        Due.is("the other one was not kept", x.restore(0), Due.STATE);
        Due.is("restore(1)", x.restore(1), 1);
    }

    private static void boxAndRun() {
        HummingDisc x = Due.of(BOX);
        x.begin(0, 0, 0, 10);
        x.go(3);
        Due.are("then", Due.now(x), -2, -6, 3, 0, 1, 2, 6, 18, 1);
        x.image(0);
        x.go(7);
        Due.is("another BOX", Due.read(x, OTHER), 2);
        Due.is("and RUN", x.begin(1, 0, 2, 9), 1);
        Due.is("restore(0)", x.restore(0), 1);
        Due.are("as it was kept", Due.now(x), -2, -6, 3, 0, 1, 2, 6, 18, 1);
        Due.is("its DISCS", x.count(1), 1);
        Due.is("its HANDS", x.count(3), 1);
        Due.is("its rules", x.count(4), 1);
        x.go(3);
        Due.are("it goes on", Due.now(x), -8, 0, 6, 0, 7, 2, 6, 0, 1);
        Due.is("restore(0) again", x.restore(0), 1);
        Due.are("the IMAGE did not", Due.now(x), -2, -6, 3, 0, 1, 2, 6, 18, 1);
    }

    private static void twoImages() {
        HummingDisc x = Due.of(BOX);
        Due.row(x, 0, 0, 6, 0, 0, 0, 0, 0, 0, 0, 0, 0);
        x.begin(0, 0, 0, 20);
        x.image(0);
        Due.is("to the SNAP", x.pulls(0, 0, 10), 7);
        x.image(1);
        x.restore(0);
        Due.are("the first", Due.now(x), 20, 0, 0, 0, 19, Due.NONE, 0, 0, 0);
        x.restore(1);
        Due.are("the second", Due.now(x), -20, 0, 7, 1, 19, 0, 6, 0, 1);
        Due.is("SNAPPED, too", x.go(1), 0);
        x.restore(0);
        x.image(1);
        x.go(1);
        x.restore(1);
        Due.are("in place of the second", Due.now(x), 20, 0, 0, 0, 19, Due.NONE, 0, 0, 0);
    }

    private static void withoutRun() {
        HummingDisc x = Due.of(BOX);
        x.image(0);
        x.begin(0, 0, 0, 10);
        x.restore(0);
        Due.is("no RUN was kept", x.kind(), Due.STATE);
        Due.is("none goes", x.go(1), Due.STATE);
        Due.is("the BOX was", x.count(1), 1);
    }

    private static void whatStays() {
        HummingDisc x = Due.of(BOX);
        Due.row(x, 0, 1, 9);
        x.begin(0, 0, 0, 10);
        x.image(0);
        x.ask(0);
        x.row(1, 0, 1);
        x.tune(0, 0, 20, 0, 0, 1);
        int forces = x.forces();
        x.set(0, 1, 0);
        Due.read(x, "disc 0");
        Due.feed(x, "disc 1");
        x.restore(0);
        Due.is("ROWS", x.count(0), 2);
        Due.is("the tape", x.count(5), 6);
        Due.is("fault()", x.fault(), 2);
        Due.is("forces()", x.forces(), forces);
        Due.is("status()", x.status(), 2);
        Due.are("THE TRACE", Due.trace(x), 14, 10);
    }
}
