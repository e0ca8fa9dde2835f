/** Terms 1 (TEXTS, FAULTS), promises 6 to 8: feed, box, fault. Each test is for one sentence, or a part of one. */
public final class BoxesTest {
    private static final String DISC = "disc 1 0 1;", THREAD = "thread 1 1 9 1;", HAND = "hand;";
    private static final String RULE = "when wound above 1 pull 1;", ALL = DISC + THREAD + HAND;

    public static void main(String[] args) {
        tokens();
        spaces();
        text();
        disc();
        thread();
        hand();
        rule();
        theNewBox();
        faults();
        feed();
        box();
        fault();
        Due.end();
    }

    /** A text that is read: how many DISCS it has. */
    private static void reads(String text, int discs) {
        HummingDisc x = new HummingDisc();
        Due.is("box() of: " + text, Due.read(x, text), discs);
        Due.is("fault() of: " + text, x.fault(), 0);
    }

    /** A text that has a FAULT: its place, its number. */
    private static void faulty(String text, int place, int number) {
        HummingDisc x = new HummingDisc();
        Due.is("box() of: " + text, Due.read(x, text), -1000100 - place);
        Due.is("fault() of: " + text, x.fault(), number);
    }

    /** A part behind another text that is read: the place in the part. */
    private static void faultyBehind(String ahead, String part, int place, int number) {
        faulty(ahead + part, ahead.length() + place, number);
    }

    // ---- tokens

    private static void tokens() {
        tapeOf500();
        names();
        numbers();
        fourFiguresAtMost();
        signs();
    }

    private static void tapeOf500() {
        Due.says("Terms", "TEXTS: THE TAPE has at most 500 bytes;");
        HummingDisc x = new HummingDisc();
        Due.is("500 bytes", Due.feed(x, ALL + " ".repeat(500 - ALL.length())), 500);
        Due.is("one more", x.feed(' ', 1), Due.FULL);
        Due.is("they are read", x.box(), 1);
        faulty(ALL + " ".repeat(499 - ALL.length()) + "-", 499, 1);
        faulty(ALL + " ".repeat(496 - ALL.length()) + "hand", 500, 1);
    }

    private static void names() {
        Due.says("Terms", "TOKENS: NAMES (letters a to z),");
        faulty("Disc 1 0 1;", 0, 1);
        faulty("disC 1 0 1;", 0, 1);
        for (char next : new char[] {'`', '{', 'A', 'Z', '_', 228, 0}) {
            faulty("disc" + next + " 1 0 1;", 4, 1);
            faulty(ALL + next, ALL.length(), 1);
        }
        faulty("disca 1 0 1;", 0, 1);
        faulty("discz 1 0 1;", 0, 1);
        String[] words = {"disc", "thread", "hand", "when", "wound", "below", "above", "pull", "pace", "give", "tick"};
        // Two to each word: another letter ahead, another one behind.
        String[] spoilt = {"misc", "disk", "shread", "threat", "band", "hang", "then", "whet", "found", "wouns", "mellow",
            "belov", "ebove", "abovy", "full", "pulp", "face", "pack", "live", "gift", "pick", "ticl"};
        String all = ALL + "when wound below 1 pull 1; when pace above 1 pull 1;"
            + "when give above 1 pull 1; when tick above 1 pull 1;";
        reads(all, 1);
        for (int i = 0; i < spoilt.length; i++) {
            String word = words[i / 2];
            faulty(all.replaceFirst(word, spoilt[i]), all.indexOf(word), 1);
            faulty(all.replaceFirst(word, word + "s"), all.indexOf(word), 1);
            faulty(all.replaceFirst(word, word.substring(1)), all.indexOf(word), 1);
        }
    }

    private static void numbers() {
        Due.says("Terms", "NUMBERS (perhaps -, at once figures,");
        reads(ALL + "when tick above -7 pull 1;", 1);
        reads("disc 1 -0 1;" + THREAD + HAND, 1);
        faulty("disc 1 - 0 1;", 7, 1);
        faulty("disc 1 --0 1;", 7, 1);
        faulty("disc 1 -; 1;", 7, 1);
        faulty("disc -", 5, 1);
        faulty("disc +1 0 1;", 5, 1);
        faulty("disc /1 0 1;", 5, 1);
        faulty("disc :1 0 1;", 5, 1);
        faulty("disc 1.5 0 1;", 6, 1);
        faulty("disc 0x1 0 1;", 5, 2);
    }

    private static void fourFiguresAtMost() {
        Due.says("Terms", "figures, 4 at most),");
        reads("disc 0009 0000 0001;" + THREAD + HAND, 1);
        reads(ALL + "when tick above 9999 pull 1;", 1);
        reads(ALL + "when tick above -0999 pull 1;", 1);
        faulty("disc 00009 0 1;", 5, 1);
        faulty("disc 1 -00000 1;", 7, 1);
    }

    private static void signs() {
        Due.says("Terms", "SIGNS ;");
        reads("disc 1 0 1 ; thread 1 1 9 1 ; hand ;", 1);
        for (char other : new char[] {':', '<', ',', '.', '\''}) faulty("disc 1 0 1" + other, 10, 1);
        faulty("disc 1 0 1;;", 11, 1);
        faulty("disc; 1 0 1;", 4, 1);
        faulty("disc 1 0 1 10000" + THREAD + HAND, 11, 1);
        faulty("disc 1 0 1 -" + THREAD + HAND, 11, 1);
    }

    private static void spaces() {
        spaces32And10();
        spacesAheadBetweenBehind();
        asManySpacesAsWanted();
        noSpaceIsNeeded();
    }

    private static void spaces32And10() {
        Due.says("Terms", "bytes 32 and 10");
        reads("disc 1\n0 1\n;\nthread 1 1\n9 1; hand;", 1);
        for (int other = 0; other < 256; other++) {
            if (other == 32 || other == 10 || other == ';' || other == '-') continue;
            if (other >= '0' && other <= '9' || other >= 'a' && other <= 'z') continue;
            faulty("disc 1 0 1" + (char) other + ";", 10, 1);
        }
    }

    private static void spacesAheadBetweenBehind() {
        Due.says("Terms", "ahead of, between, behind these,");
        reads("  \n" + ALL, 1);
        reads("disc 1  0\n\n1 ;\nthread 1 \n1 9 1; hand \n;", 1);
        reads(ALL + "\n  ", 1);
        faulty("di sc 1 0 1;", 0, 1);
        faulty("disc 1 0 1 0;", 11, 1);
        faulty("disc 1 - 0 1;", 7, 1);
    }

    private static void asManySpacesAsWanted() {
        Due.says("Terms", "as many as wanted");
        int left = 500 - ALL.length();
        reads(" ".repeat(left) + ALL, 1);
        reads(DISC + "\n".repeat(left) + THREAD + HAND, 1);
        reads(ALL + " ".repeat(left), 1);
        faulty(" ".repeat(500), 500, 1);
    }

    private static void noSpaceIsNeeded() {
        Due.says("Terms", "(none is needed where one ends without).");
        reads("disc1 0 1;thread1 1 9 1;hand;when wound above-1pull 1;when tick below 9pull9;", 1);
        reads("disc 9-0 1;" + THREAD + HAND, 1);
        faulty("disc 10 1;", 9, 1);
        faulty("discdisc 1 0 1;", 0, 1);
    }

    // ---- the text

    private static void text() {
        Due.says("Terms", "text: disc { disc } thread { thread } hand { hand }.");
        reads(ALL, 1);
        reads(DISC + DISC + THREAD + THREAD + THREAD + HAND + HAND, 2);
        faulty("", 0, 1);
        faulty(THREAD + HAND, 0, 1);
        faulty(DISC + HAND, DISC.length(), 1);
        faulty(DISC, DISC.length(), 1);
        faulty(DISC + THREAD, (DISC + THREAD).length(), 1);
        faultyBehind(DISC + THREAD, DISC, 0, 1);
        faultyBehind(ALL, THREAD, 0, 1);
        faultyBehind(ALL, DISC, 0, 1);
        faultyBehind(ALL, "; ", 0, 1);
        faultyBehind(ALL, "7", 0, 1);
    }

    private static void disc() {
        aDiscsNumbers();
        weight1To999();
        air0To99();
        teeth1To60();
        fourDiscsAtMost();
    }

    private static void aDiscsNumbers() {
        Due.says("Terms", "disc: 'disc' WEIGHT AIR TEETH ';'");
        HummingDisc x = Due.of("disc 4 99 3; thread 1 1 20 999; hand;");
        Due.is("the WEIGHT", x.greatest(0, 0, 20, 5, 1, 0), 12);
        Due.is("the AIR", x.greatest(0, 0, 20, 99, 1, 0), 187);
        Due.row(x, 0, 1, 3, 8);
        Due.is("the TEETH", x.sound(0, 0, 0, 2, 1), 2);
        faulty("1 0 1;", 0, 1);
        faulty("disc 0 1;", 5, 2);
        faulty("disc 1 1;", 8, 1);
        faulty("disc 1 0 1 1;", 11, 1);
        faulty("disc 1 0 1 thread", 11, 1);
        faulty("disc 1 0 1", 10, 1);
    }

    private static void weight1To999() {
        Due.says("Terms", "WEIGHT AIR TEETH ';' (1 to 999;");
        inADisc("", " 0 1", 1, 999);
    }

    private static void air0To99() {
        Due.says("Terms", "(1 to 999; 0 to 99;");
        inADisc("1 ", " 1", 0, 99);
    }

    private static void teeth1To60() {
        Due.says("Terms", "0 to 99; 1 to 60;");
        inADisc("1 0 ", "", 1, 60);
    }

    private static void fourDiscsAtMost() {
        Due.says("Terms", "DISCS 0 .. 3, 4 at most).");
        HummingDisc x = Due.of("disc 1 0 1; disc 2 0 1; disc 3 0 1; disc 4 0 1;" + THREAD + HAND);
        Due.is("how many", x.count(1), 4);
        int[] due = {14, 17, 19, 22};
        for (int disc = 0; disc < 4; disc++) Due.is("WOBBLE of DISC " + disc, x.wobble(disc, 1), due[disc]);
        Due.is("no DISC 4", x.wobble(4, 1), Due.BAD);
        faultyBehind(DISC + DISC + DISC + DISC, DISC, 0, 3);
    }

    private static void inADisc(String ahead, String behind, int least, int most) {
        inAText("disc " + ahead, behind + ";" + THREAD + HAND, least, most);
    }

    /** A NUMBER between two parts of a text: the least and the most are read; one less, one more are FAULTS, and so on. */
    private static void inAText(String ahead, String behind, int least, int most) {
        reads(ahead + least + behind, 1);
        reads(ahead + most + behind, 1);
        int[] wrong = {least - 1, most + 1, -999, 9999};
        for (int n : wrong) {
            if (n < least || n > most) faulty(ahead + n + behind, ahead.length(), 2);
        }
    }

    private static void thread() {
        aThreadsNumbers();
        thick1To99();
        twist1To400();
        mostFromTwistTo800();
        snap1To999();
        fourThreads();
    }

    private static void aThreadsNumbers() {
        Due.says("Terms", "thread: 'thread' THICK TWIST MOST SNAP ';'");
        HummingDisc x = Due.of("disc 10 0 1; thread 99 40 60 7; hand;");
        Due.is("THICK", x.shorter(0, 40, 0), 158);
        Due.is("TWIST", x.shorter(0, 41, 1), 2 * x.shorter(0, 40, 1) + 1);
        Due.is("MOST", x.begin(0, 0, 0, 60), 1);
        Due.is("beyond MOST", x.begin(0, 0, 0, 61), Due.BAD);
        Due.is("beyond SNAP", x.greatest(0, 0, 60, 99, 9, 1), 1);
        faultyBehind(DISC, "1 1 1 1;", 0, 1);
        faultyBehind(DISC, "thread 1 1 1;", 12, 1);
        faultyBehind(DISC, "thread 1 1 1 1 1;", 15, 1);
        faultyBehind(DISC, "thread 1 1 1 1 hand", 15, 1);
    }

    private static void thick1To99() {
        Due.says("Terms", "THICK TWIST MOST SNAP ';' (1 to 99;");
        inAText(DISC + "thread ", " 1 800 1;" + HAND, 1, 99);
    }

    private static void twist1To400() {
        Due.says("Terms", "(1 to 99; 1 to 400;");
        inAText(DISC + "thread 1 ", " 800 1;" + HAND, 1, 400);
    }

    private static void mostFromTwistTo800() {
        Due.says("Terms", "TWIST to 800;");
        inAText(DISC + "thread 1 1 ", " 1;" + HAND, 1, 800);
        inAText(DISC + "thread 1 399 ", " 1;" + HAND, 399, 800);
        inAText(DISC + "thread 1 400 ", " 1;" + HAND, 400, 800);
    }

    private static void snap1To999() {
        Due.says("Terms", "TWIST to 800; 1 to 999;");
        inAText(DISC + "thread 1 1 1 ", ";" + HAND, 1, 999);
    }

    private static void fourThreads() {
        Due.says("Terms", "THREADS 0 .. 3).");
        HummingDisc x = Due.of(DISC + "thread 1 1 9 1; thread 10 50 60 1; thread 20 50 60 1; thread 40 50 60 1;" + HAND);
        Due.is("how many", x.count(2), 4);
        int[] due = {49, 25, 50, 100};
        for (int thread = 0; thread < 4; thread++) {
            Due.is("SHORT by THREAD " + thread, x.shorter(thread, 50, 0), due[thread]);
        }
        Due.is("no THREAD 4", x.shorter(4, 50, 0), Due.BAD);
        faultyBehind(DISC + THREAD + THREAD + THREAD + THREAD, THREAD, 0, 3);
    }

    private static void hand() {
        aHandsRules();
        fourHands();
    }

    private static void aHandsRules() {
        Due.says("Terms", "hand: 'hand' ';' { rule }");
        Due.is("no rule", Due.of(ALL).count(4), 0);
        Due.is("one rule", Due.of(ALL + RULE).count(4), 1);
        Due.is("three rules", Due.of(ALL + RULE + RULE + RULE).count(4), 3);
        faultyBehind(DISC + THREAD, "hand when", 5, 1);
        faultyBehind(DISC + THREAD, "hand 1;", 5, 1);
        faultyBehind(DISC + THREAD, RULE, 0, 1);
        faultyBehind(DISC + THREAD, "hand", 4, 1);
    }

    private static void fourHands() {
        Due.says("Terms", "(HANDS 0 .. 3).");
        HummingDisc x = Due.of("disc 10 0 1; thread 1 1 20 999;" + "hand; when tick above -1 pull 5;"
            + "hand; when tick above -1 pull 6; hand; when tick above -1 pull 7; hand; when tick above -1 pull 8;");
        Due.is("how many", x.count(3), 4);
        for (int hand = 0; hand < 4; hand++) {
            Due.is("begin by HAND " + hand, x.begin(0, 0, hand, 9), 1);
            x.go(1);
            Due.is("F of HAND " + hand, x.now(5), 5 + hand);
        }
        Due.is("no HAND 4", x.begin(0, 0, 4, 9), Due.BAD);
        faultyBehind(ALL + HAND + HAND + HAND, HAND, 0, 3);
    }

    private static void rule() {
        aRulesTokens();
        whatARuleFeels();
        aRulesNumber();
        aRulesForce();
        sixRulesAtMost();
    }

    private static void aRulesTokens() {
        Due.says("Terms", "rule: 'when' WHAT ( 'below' | 'above' ) NUMBER 'pull' F ';'");
        reads(ALL + "when wound above 1 pull 1; when wound below 1 pull 1;", 1);
        faultyBehind(ALL, "wound above 1 pull 1;", 0, 1);
        faultyBehind(ALL, "when above 1 pull 1;", 5, 1);
        faultyBehind(ALL, "when wound 1 pull 1;", 11, 1);
        faultyBehind(ALL, "when wound pull 1;", 11, 1);
        faultyBehind(ALL, "when wound above pull 1;", 17, 1);
        faultyBehind(ALL, "when wound above 1 1;", 19, 1);
        faultyBehind(ALL, "when wound above 1 pull;", 23, 1);
        faultyBehind(ALL, "when wound above 1 pull 1 when", 26, 1);
        faultyBehind(ALL, "when wound above 1 pull 1", 25, 1);
    }

    private static void whatARuleFeels() {
        Due.says("Terms", "(WHAT: 'wound' | 'pace' | 'give' | 'tick';");
        for (String what : new String[] {"wound", "pace", "give", "tick"}) reads(ALL + "when " + what + " above 1 pull 1;", 1);
        for (String what : new String[] {"wounds", "woun", "gives", "turn", "when", "hand", "7", ";"}) {
            faultyBehind(ALL, "when " + what + " above 1 pull 1;", 5, 1);
        }
    }

    private static void aRulesNumber() {
        Due.says("Terms", "-999 to 9999;");
        reads(ALL + "when tick above -999 pull 1;", 1);
        reads(ALL + "when tick above 9999 pull 1;", 1);
        faultyBehind(ALL, "when tick above -1000 pull 1;", 16, 2);
        faultyBehind(ALL, "when tick above -9999 pull 1;", 16, 2);
        faultyBehind(ALL, "when tick above 10000 pull 1;", 16, 1);
    }

    private static void aRulesForce() {
        Due.says("Terms", "F 0 to 99;");
        inAText(ALL + "when tick above 1 pull ", ";", 0, 99);
    }

    private static void sixRulesAtMost() {
        Due.says("Terms", "6 for a HAND at most).");
        String six = RULE + RULE + RULE + RULE + RULE + RULE;
        Due.is("six", Due.of(ALL + six).count(4), 6);
        Due.is("seven of two HANDS", Due.of(ALL + six + HAND + RULE).count(4), 7);
        faultyBehind(ALL + six, RULE, 0, 3);
        faultyBehind(ALL + RULE + HAND + six, RULE, 0, 3);
    }

    private static void theNewBox() {
        inPlaceOfTheOneBefore();
        noBoxAtFirst();
        aNewBoxHasNoRun();
        imagesAndRowsStay();
    }

    private static void inPlaceOfTheOneBefore() {
        Due.says("Terms", "A BOX that is read stands in place of the one before");
        HummingDisc x = Due.of(DISC + DISC + THREAD + THREAD + HAND + HAND + RULE);
        Due.is("another", Due.read(x, "disc 9 0 1; thread 10 50 60 1;" + HAND), 1);
        int[] due = {0, 1, 1, 1, 0, 0};
        for (int what = 0; what < 6; what++) Due.is("count(" + what + ")", x.count(what), due[what]);
        Due.is("its DISC", x.wobble(0, 1), 31);
        Due.is("no other DISC", x.wobble(1, 1), Due.BAD);
        Due.is("its THREAD", x.shorter(0, 50, 0), 25);
        Due.is("no other THREAD", x.shorter(1, 50, 0), Due.BAD);
    }

    private static void noBoxAtFirst() {
        Due.says("Terms", "(none at first):");
        Due.is("count(1)", new HummingDisc().count(1), 0);
        Due.is("best()", new HummingDisc().best(1, 1, 1), Due.STATE);
    }

    private static void aNewBoxHasNoRun() {
        Due.says("Terms", "no RUN;");
        HummingDisc x = Due.of(ALL);
        x.begin(0, 0, 0, 5);
        Due.is("an alike BOX", Due.read(x, ALL), 1);
        Due.is("go(1)", x.go(1), Due.STATE);
        Due.is("now(0)", x.now(0), Due.STATE);
        Due.is("kind()", x.kind(), Due.STATE);
    }

    private static void imagesAndRowsStay() {
        Due.says("Terms", "IMAGES and ROWS stay.");
        HummingDisc x = Due.of(DISC + ALL);
        Due.row(x, 0, 1, 5, 6);
        x.begin(1, 0, 0, 5);
        x.image(1);
        Due.is("another BOX", Due.read(x, ALL), 1);
        Due.is("ROWS", x.count(0), 1);
        Due.is("an ITEM", Due.item(x, 0, 1, 1), 6);
        Due.is("restore(1)", x.restore(1), 1);
        Due.is("its DISCS", x.count(1), 2);
        Due.is("its RUN", x.now(0), 5);
    }

    // ---- faults

    private static void faults() {
        theFirstTokenWithAFault();
        atItsFirstByte();
        theLeastOfOneToken();
        itCannotStandThere();
        itIsNoToken();
        fiveFiguresOrMore();
        theEnd();
        aNumberThatIsNotAsTold();
        moreThanThereIsRoomFor();
    }

    private static void theFirstTokenWithAFault() {
        Due.says("Terms", "FAULTS, the first TOKEN that has one");
        faulty("disc 0 100 61 thread", 5, 2);
        faulty("disc 1 100 0;", 7, 2);
        faulty("disc 1 x 0;", 7, 1);
        faulty(DISC + DISC + DISC + DISC + "disc 0", 4 * DISC.length(), 3);
        faulty("disc 1 0 0; disc", 9, 2);
        faulty("thread 0 A", 0, 1);
    }

    private static void atItsFirstByte() {
        Due.says("Terms", "(its first byte),");
        faulty("   disc 1000 0 1;", 8, 2);
        faulty("disc 1\n\n\n-5 1;", 9, 2);
        faulty("disc 1 0 1  threads", 12, 1);
    }

    private static void theLeastOfOneToken() {
        Due.says("Terms", "of one TOKEN the least:");
        faulty(DISC + DISC + DISC + DISC + THREAD + "disc", 4 * DISC.length() + THREAD.length(), 1);
        faulty("disc 1 0 1 999;", 11, 1);
        faulty("disc 99999 0 1;", 5, 1);
        faulty("disc 1 0 -99;", 9, 2);
        faulty("-5 disc", 0, 1);
        faulty(ALL + HAND + HAND + HAND + "when hand", (ALL + HAND + HAND + HAND).length() + 5, 1);
    }

    private static void itCannotStandThere() {
        Due.says("Terms", "1 it cannot stand there,");
        faulty(HAND, 0, 1);
        faulty("disc disc", 5, 1);
        faulty("disc 1;", 6, 1);
        faulty("disc 1 0 1 0", 11, 1);
    }

    private static void itIsNoToken() {
        Due.says("Terms", "or is none");
        faulty("?", 0, 1);
        faulty("disc 1 0 1;\u00e9", 11, 1);
        faulty("disc 1 0 1;\0", 11, 1);
        faulty("disc 1 -- 1;", 7, 1);
    }

    private static void fiveFiguresOrMore() {
        Due.says("Terms", "(a NUMBER of five figures or more, at its first byte;");
        faulty("disc 10000 0 1;", 5, 1);
        faulty("disc 1 00000 1;", 7, 1);
        faulty("disc 1  -10000 1;", 8, 1);
        faulty("disc 99999999999999999999 0 1;", 5, 1);
        faulty("disc 4294967297 0 1;", 5, 1);
        faulty("disc 18446744073709551617 0 1;", 5, 1);
        faulty("disc " + "1".repeat(495), 5, 1);
    }

    private static void theEnd() {
        Due.says("Terms", "the end: how many bytes there are);");
        faulty("", 0, 1);
        faulty("  \n", 3, 1);
        faulty("disc", 4, 1);
        faulty("disc 1 0 ", 9, 1);
        faulty("disc 1 0 1;   ", 14, 1);
        faulty(ALL + "when", ALL.length() + 4, 1);
        theEndOfAShorterTape();
    }

    private static void aNumberThatIsNotAsTold() {
        Due.says("Terms", "2 a NUMBER that is not as told;");
        faulty("disc 1000 0 1;", 5, 2);
        faulty("disc -1 0 1;", 5, 2);
        faulty("disc -0001 0 1;", 5, 2);
        faulty(DISC + "thread 1 400 399 1;", DISC.length() + 13, 2);
    }

    private static void moreThanThereIsRoomFor() {
        Due.says("Terms", "3 more of a sort than there is room for (its word).");
        faultyBehind(DISC + DISC + DISC + DISC, " disc", 1, 3);
        faultyBehind(DISC + THREAD + THREAD + THREAD + THREAD, " thread", 1, 3);
        faultyBehind(ALL + HAND + HAND + HAND, " hand", 1, 3);
        faultyBehind(ALL + RULE + RULE + RULE + RULE + RULE + RULE, " when", 1, 3);
    }

    /** A TOKEN ends where the tape ends, whatever stood there before. */
    private static void theEndOfAShorterTape() {
        for (char before : new char[] {'a', '1', ' ', ';'}) {
            HummingDisc x = new HummingDisc();
            Due.read(x, String.valueOf(before).repeat(500));
            Due.is("behind a tape of " + before + ": disc", Due.read(x, "disc"), -1000104);
            Due.is("behind a tape of " + before + ": disc 1 0 7", Due.read(x, "disc 1 0 7"), -1000110);
            Due.is("behind a tape of " + before + ": disc 1 0 ", Due.read(x, "disc 1 0 "), -1000109);
            Due.is("behind a tape of " + before + ": -", Due.read(x, "disc -"), -1000105);
        }
    }

    // ---- promises 6 to 8

    private static void feed() {
        lowestBytes();
        oneToEightBytes();
        theHighestFirst();
        theyComeBehind();
        howManyBytesItHas();
        feedBadN();
        feedFull();
    }

    private static void lowestBytes() {
        Due.says("Promise 6", "The lowest n bytes of w");
        HummingDisc x = new HummingDisc();
        x.feed(-1L << 24 | ' ' << 16 | '\n' << 8 | ' ', 3);
        Due.is("three spaces, no more", x.box(), -1000103);
        x.feed(0xffffffffffffff00L | ' ', 1);
        Due.is("one, no more", x.box(), -1000101);
    }

    private static void oneToEightBytes() {
        Due.says("Promise 6", "(1 to 8),");
        for (int n = 1; n <= 8; n++) Due.is("feed(0, " + n + ")", new HummingDisc().feed(0, n), n);
    }

    private static void theHighestFirst() {
        Due.says("Promise 6", "the highest of them first,");
        HummingDisc x = new HummingDisc();
        Due.is("feed(disc 9 0)", x.feed(0x6469736320392030L, 8), 8);
        Due.is("feed( 1;)", x.feed(0x20313bL, 3), 11);
        Due.feed(x, THREAD + HAND);
        Due.is("box()", x.box(), 1);
        Due.is("its WEIGHT is 9", x.wobble(0, 1), 31);
        x.feed(' ' << 8 | '?', 2);
        Due.is("a space, then ?", x.box(), -1000101);
        x.feed((long) '?' << 56, 8);
        Due.is("?, then seven of 0", x.box(), -1000100);
    }

    private static void theyComeBehind() {
        Due.says("Promise 6", "come behind the tape:");
        HummingDisc x = new HummingDisc();
        for (char letter : ALL.toCharArray()) x.feed(letter, 1);
        Due.is("byte by byte", x.box(), 1);
    }

    private static void howManyBytesItHas() {
        Due.says("Promise 6", "how many it has.");
        HummingDisc x = new HummingDisc();
        for (int i = 1; i <= 62; i++) Due.is("feed(0, 8)", x.feed(0, 8), 8 * i);
    }

    private static void feedBadN() {
        Due.says("Promise 6", "BAD: n;");
        HummingDisc x = new HummingDisc();
        for (int n : new int[] {0, 9, -1, Due.LEAST, Due.GREATEST}) Due.is("feed(0, " + n + ")", x.feed(0, n), Due.BAD);
        Due.is("none came", x.count(5), 0);
    }

    private static void feedFull() {
        Due.says("Promise 6", "FULL: none comes.");
        HummingDisc x = new HummingDisc();
        Due.feed(x, ALL + " ".repeat(496 - ALL.length()));
        for (int n = 5; n <= 8; n++) Due.is("feed(0, " + n + ") behind 496", x.feed(0, n), Due.FULL);
        Due.is("none came", x.count(5), 496);
        Due.is("four more", x.feed(' ' << 24 | ' ' << 16 | ' ' << 8 | ' ', 4), 500);
        Due.is("one more", x.feed(0, 1), Due.FULL);
        Due.is("what was there is read", x.box(), 1);
    }

    private static void box() {
        theTapeIsEmptyThen();
        howManyDiscs();
        lessThePlaceOfAFault();
        whatStaysBehindAFault();
    }

    private static void theTapeIsEmptyThen() {
        Due.says("Promise 7", "The tape, empty then, is read:");
        HummingDisc x = new HummingDisc();
        Due.read(x, ALL);
        Due.is("bytes on the tape", x.count(5), 0);
        Due.is("read anew", x.box(), -1000100);
        Due.read(x, "disc 1 0 1;;;");
        Due.is("behind a FAULT it is empty, too", x.count(5), 0);
        Due.is("read anew", Due.read(x, ALL), 1);
    }

    private static void howManyDiscs() {
        Due.says("Promise 7", "how many DISCS there are.");
        for (int n = 1; n <= 4; n++) reads(DISC.repeat(n) + THREAD + THREAD + HAND + HAND + HAND, n);
    }

    private static void lessThePlaceOfAFault() {
        Due.says("Promise 7", "-1000100 less the place of a FAULT:");
        HummingDisc y = new HummingDisc();
        Due.is("place 0", Due.read(y, "?"), -1000100);
        Due.is("place 11", Due.read(y, DISC + "?"), -1000111);
        Due.is("place 500", Due.read(y, " ".repeat(500)), -1000600);
    }

    private static void whatStaysBehindAFault() {
        Due.says("Promise 7", "all but the tape, and what fault() tells, stays.");
        HummingDisc x = Due.of(DISC + DISC + THREAD + HAND + RULE);
        Due.row(x, 0, 1, 5);
        x.tune(0, 0, 9, 0, 0, 1);
        x.begin(1, 0, 0, 5);
        x.image(0);
        x.go(2);
        x.ask(1);
        x.drop(1);
        String ahead = Due.state(x).replaceAll(" fault .*", "");
        String[] faulty = {"", "disc 7 0 1; disc 7 0 1; disc 7 0 1; thread 2 2 2 2;", ALL + RULE + "7", "disc 0"};
        for (String text : faulty) {
            Due.is("it has a FAULT", Due.read(x, text) <= -1000100 ? 1 : 0, 1);
            Due.areAlike("what is behind a FAULT", Due.state(x).replaceAll(" fault .*", ""), ahead);
            Due.is("status()", x.status(), 1);
        }
        Due.is("the IMAGE", x.restore(0), 1);
        Due.is("its RUN", x.now(2), 0);
        Due.is("ITEMS", Due.item(x, 0, 1, 0), 5);
    }

    private static void fault() {
        theLatestFault();
        noFaultBefore();
    }

    private static void theLatestFault() {
        Due.says("Promise 8", "The number of the latest FAULT;");
        HummingDisc x = new HummingDisc();
        Due.read(x, DISC.repeat(5));
        Due.is("3", x.fault(), 3);
        Due.read(x, "disc 0");
        Due.is("2", x.fault(), 2);
        Due.read(x, "disc 1");
        Due.is("1", x.fault(), 1);
        Due.read(x, DISC.repeat(5));
        Due.read(x, ALL);
        Due.is("a BOX that is read leaves it", x.fault(), 3);
    }

    private static void noFaultBefore() {
        Due.says("Promise 8", "0 before one.");
        Due.is("of a new object", new HummingDisc().fault(), 0);
        Due.is("behind a BOX that is read", Due.of(ALL).fault(), 0);
    }
}
