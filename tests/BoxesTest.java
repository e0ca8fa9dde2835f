/** Promises 6 to 9: feed, box, fault, shorter. */
public final class BoxesTest {
    private static final String DISC = "disc 1 0 1;", THREAD = "thread 1 1 9 1;", HAND = "hand;";
    private static final String RULE = "when wound above 1 pull 1;";

    public static void main(String[] args) {
        feed();
        wholeTexts();
        spaces();
        firstFault();
        ends();
        numbers();
        room();
        whatStays();
        shorter();
        Due.end();
    }

    private static void feed() {
        HummingDisc x = new HummingDisc();
        Due.is("feed(0, 0)", x.feed(0, 0), Due.BAD);
        Due.is("feed(0, 9)", x.feed(0, 9), Due.BAD);
        Due.is("feed(0, -1)", x.feed(0, -1), Due.BAD);
        for (int i = 1; i <= 62; i++) Due.is("feed(0, 8)", x.feed(0, 8), 8 * i);
        Due.is("five more", x.feed(0, 5), Due.FULL);
        Due.is("none came", x.count(5), 496);
        Due.is("four more", x.feed(0, 4), 500);
        Due.is("one more", x.feed(0, 1), Due.FULL);
        Due.is("a bad n, ahead of FULL", x.feed(0, 9), Due.BAD);
        x.box();
        Due.is("behind box()", x.count(5), 0);
        Due.is("only the lowest", x.feed(-1L << 24 | ' ' << 16 | ';' << 8 | ' ', 3), 3);
        Due.is("the highest of them first", x.box(), -1000101);
    }

    private static void reads(String text, int want, int fault) {
        HummingDisc x = new HummingDisc();
        Due.is("box() of: " + text, Due.read(x, text), want);
        Due.is("fault() of: " + text, x.fault(), fault);
        Due.is("the tape behind: " + text, x.count(5), 0);
    }

    private static void wholeTexts() {
        reads(DISC + THREAD + HAND, 1, 0);
        reads(DISC + DISC + DISC + DISC + THREAD + HAND, 4, 0);
        String full = DISC + DISC + DISC + DISC + THREAD + THREAD + THREAD + THREAD + HAND + HAND + HAND + HAND;
        HummingDisc x = Due.of(full);
        Due.is("the last of each", x.begin(3, 3, 3, 1), 1);
        Due.is("no DISC behind it", x.begin(4, 3, 3, 1), Due.BAD);
        Due.is("no THREAD behind it", x.begin(3, 4, 3, 1), Due.BAD);
        Due.is("no HAND behind it", x.begin(3, 3, 4, 1), Due.BAD);
        x = Due.of(DISC + DISC + THREAD + THREAD + THREAD + HAND + RULE + RULE + HAND + HAND + HAND + RULE);
        Due.is("DISCS", x.count(1), 2);
        Due.is("THREADS", x.count(2), 3);
        Due.is("HANDS", x.count(3), 4);
        Due.is("rules of all", x.count(4), 3);
    }

    private static void spaces() {
        reads("disc1 0 1;thread1 1 9 1;hand;when wound above-1pull 1;", 1, 0);
        reads("\n disc\n1\n\n0 1 ;\nthread 1 1 9 1 ; hand ; ", 1, 0);
        reads("disc 1 0 1; thread 1 1 9 1; hand; when tick below 9pull9;when give above 0pull0;", 1, 0);
        reads("disc\t1 0 1;", -1000104, 1);
        reads("disc 1 0\r1;", -1000108, 1);
        reads("discdisc 1 0 1;", -1000100, 1);
        reads("disc 10-1 1;", -1000107, 2);
        reads("disc 5-0 1;" + THREAD + HAND, 1, 0);
        reads("  ", -1000102, 1);
        reads("", -1000100, 1);
        reads("disc 1 0 1;\u00e9", -1000111, 1);
        reads("disc 1 0 1;\u0000", -1000111, 1);
    }

    private static void firstFault() {
        reads(THREAD, -1000100, 1);
        reads("Disc 1 0 1;", -1000100, 1);
        reads("discs 1 0 1;", -1000100, 1);
        reads("dis 1 0 1;", -1000100, 1);
        reads("discz 1 0 1;", -1000100, 1);
        reads("misc 1 0 1;", -1000100, 1);
        reads("disk 1 0 1;", -1000100, 1);
        reads(DISC + HAND, -1000111, 1);
        reads(DISC + THREAD + DISC, -1000126, 1);
        reads(DISC + THREAD + HAND + THREAD, -1000131, 1);
        reads(DISC + THREAD + HAND + "; ", -1000131, 1);
        reads(DISC + THREAD + HAND + "7", -1000131, 1);
        reads(DISC + THREAD + HAND + "when 1", -1000136, 1);
        reads(DISC + THREAD + HAND + "when below 1", -1000136, 1);
        reads(DISC + THREAD + HAND + "when pace pull 1", -1000141, 1);
        reads(DISC + THREAD + HAND + "when give below pull", -1000147, 1);
        reads(DISC + THREAD + HAND + "when tick below 1 1", -1000149, 1);
        reads(DISC + THREAD + HAND + "when tick below 1 pull;", -1000153, 1);
        reads(DISC + THREAD + HAND + "when tick below 1 pull 1 when", -1000156, 1);
        reads(DISC + THREAD + HAND + "when ", -1000136, 1);
        reads("disc;0 1;", -1000104, 1);
        reads("disc 0 100 1;", -1000105, 2);
        reads("disc 1 0 0 thread", -1000109, 2);
    }

    /** A TOKEN ends where the tape ends, whatever stood there before. */
    private static void ends() {
        String[] before = {"a".repeat(500), "1".repeat(500), " ".repeat(500), ";".repeat(500)};
        for (String text : before) {
            HummingDisc x = new HummingDisc();
            int place = text.charAt(0) == ' ' ? 500 : 0;
            Due.is("a tape of " + text.charAt(0), Due.read(x, text), -1000100 - place);
            Due.is("behind it: disc", Due.read(x, "disc"), -1000104);
            Due.is("behind it: disc 1 0 7", Due.read(x, "disc 1 0 7"), -1000110);
            Due.is("behind it: disc 1 0 ", Due.read(x, "disc 1 0 "), -1000109);
            Due.is("behind it: -", Due.read(x, "disc -"), -1000105);
        }
        String most = DISC + THREAD + HAND;
        reads(most + " ".repeat(500 - most.length()), 1, 0);
        reads(most + " ".repeat(499 - most.length()) + "9", -1000599, 1);
        reads(most + " ".repeat(499 - most.length()) + "-", -1000599, 1);
        reads(most + " ".repeat(496 - most.length()) + "hand", -1000600, 1);
        reads(most + " ".repeat(495 - most.length()) + "hand;", 1, 0);
    }

    private static void numbers() {
        reads("disc 0001 0 1;" + THREAD + HAND, 1, 0);
        reads("disc 00001 0 1;", -1000105, 1);
        reads("disc -00001 0 1;", -1000105, 1);
        reads("disc -0001 0 1;", -1000105, 2);
        reads("disc 99999999999999999999 0 1;", -1000105, 1);
        reads("disc 1 -0 1;" + THREAD + HAND, 1, 0);
        reads("disc 1 - 0 1;", -1000107, 1);
        reads("disc 1 --0 1;", -1000107, 1);
        reads("disc -1 0 1;", -1000105, 2);
        reads("disc 999 99 60;" + THREAD + HAND, 1, 0);
        reads("disc 1000 99 60;", -1000105, 2);
        reads("disc 999 100 60;", -1000109, 2);
        reads("disc 999 99 61;", -1000112, 2);
        reads(DISC + "thread 99 400 800 999;" + HAND, 1, 0);
        reads(DISC + "thread 1 400 400 1;" + HAND, 1, 0);
        reads(DISC + "thread 100 400 800 999;", -1000118, 2);
        reads(DISC + "thread 99 401 800 999;", -1000121, 2);
        reads(DISC + "thread 99 0 800 999;", -1000121, 2);
        reads(DISC + "thread 99 400 801 999;", -1000125, 2);
        reads(DISC + "thread 99 400 399 999;", -1000125, 2);
        reads(DISC + "thread 99 400 800 0;", -1000129, 2);
        reads(DISC + "thread 99 400 800 1000;", -1000129, 2);
        String rule = DISC + THREAD + HAND + "when tick below ";
        reads(rule + "-999 pull 0;", 1, 0);
        reads(rule + "-1000 pull 0;", -1000147, 2);
        reads(rule + "9999 pull 99;", 1, 0);
        reads(rule + "10000 pull 0;", -1000147, 1);
        reads(rule + "0 pull -1;", -1000154, 2);
        reads(rule + "0 pull 100;", -1000154, 2);
    }

    private static void room() {
        reads(DISC + DISC + DISC + DISC + DISC, -1000144, 3);
        reads(DISC + DISC + DISC + DISC + "disc", -1000144, 3);
        reads(DISC + THREAD + THREAD + THREAD + THREAD + "thread 0", -1000171, 3);
        reads(DISC + THREAD + HAND + HAND + HAND + HAND + "hand", -1000146, 3);
        String six = DISC + THREAD + HAND + RULE + RULE + RULE + RULE + RULE + RULE;
        reads(six + HAND, 1, 0);
        reads(six + "when", -1000100 - six.length(), 3);
        reads(six + HAND + RULE + "hand;", 1, 0);
    }

    private static void whatStays() {
        HummingDisc x = Due.of(DISC + DISC + THREAD + HAND);
        x.row(0, 0, 3);
        x.begin(1, 0, 0, 5);
        x.image(0);
        Due.is("a FAULT", Due.read(x, DISC), -1000111);
        Due.is("the BOX stays", x.count(1), 2);
        Due.is("the RUN stays", x.now(0), 5);
        Due.is("fault()", x.fault(), 1);
        Due.is("another FAULT", Due.read(x, "disc 0"), -1000105);
        Due.is("fault() tells the latest", x.fault(), 2);
        Due.is("a new BOX", Due.read(x, DISC + THREAD + HAND), 1);
        Due.is("fault() stays", x.fault(), 2);
        Due.is("no RUN", x.now(0), Due.STATE);
        Due.is("ROWS stay", x.count(0), 1);
        Due.is("IMAGES stay", x.restore(0), 1);
        Due.is("the BOX of the IMAGE", x.count(1), 2);
        Due.is("its RUN", x.now(0), 5);
    }

    private static void shorter() {
        HummingDisc x = Due.of(DISC + "thread 30 50 60 400; thread 99 400 800 999; thread 1 1 1 1;" + HAND);
        int[][] due = {
            {0, 0, 0, 0}, {0, 1, 0, 0}, {0, 6, 1, 1}, {0, 40, 48, 3}, {0, 49, 72, 3}, {0, 50, 75, 3},
            {0, 51, 82, 7}, {0, 60, 145, 7}, {0, 800, 5325, 7},
            {1, 400, 15840, 80}, {1, 401, 16001, 161}, {1, 800, 80240, 161},
            {2, 1, 0, 0}, {2, 2, 1, 1}, {2, 800, 799, 1},
        };
        for (int[] d : due) {
            Due.is("SHORT of " + d[1] + " by " + d[0], x.shorter(d[0], d[1], 0), d[2]);
            Due.is("SLOPE of " + d[1] + " by " + d[0], x.shorter(d[0], d[1], 1), d[3]);
        }
        Due.is("shorter(3, 0, 0)", x.shorter(3, 0, 0), Due.BAD);
        Due.is("shorter(-1, 0, 0)", x.shorter(-1, 0, 0), Due.BAD);
        Due.is("shorter(0, -1, 0)", x.shorter(0, -1, 0), Due.BAD);
        Due.is("shorter(0, 801, 0)", x.shorter(0, 801, 0), Due.BAD);
        Due.is("shorter(0, 0, 2)", x.shorter(0, 0, 2), Due.BAD);
        Due.is("shorter(0, 0, -1)", x.shorter(0, 0, -1), Due.BAD);
        Due.is("without a BOX", new HummingDisc().shorter(0, 0, 0), Due.BAD);
    }
}
