import java.util.Arrays;

/** A button on a thread: what each call promises stands in ../shared/DOC.md, whose words the names here follow. */
public final class HummingDisc {
    public static final int NONE = -1000000, BAD = -1000001, STATE = -1000002, FULL = -1000003;

    private static final int FINDINGS = -1000010, FAULT_PLACES = -1000100;
    private static final int NULL = 1, PLACE = 2, KIND = 3, SIZE = 4, STORE = 5;
    private static final int ROWS = 8, LANES = 3, ITEMS = 40, IMAGES = 2, BYTES = 500;
    private static final int MOST_TURNS = 800, MOST_FORCE = 99, MOST_TONE = 32767;
    private static final int TIME = 0, UNWINDING = 1, WINDING = 2, DEAD = 3, OVER = 4, SNAPPED = 5;

    private final Row[] rows = new Row[ROWS];
    private final Tape tape = new Tape();
    private final Scene scene = new Scene();
    private final Scene[] images = new Scene[IMAGES];
    private final Foretold foretold = new Foretold();
    private final Asked asked = new Asked();
    private int latestFault;
    private int latestFinding;
    private int latestForces = NONE;

    public HummingDisc() {
        for (int i = 0; i < ROWS; i++) rows[i] = new Row();
        for (int i = 0; i < IMAGES; i++) images[i] = new Scene();
    }

    // ---- rows

    public int row(int row, int lane, int n) {
        Row made = rowAt(row);
        if (made == null || lane < 0 || lane >= LANES || n > ITEMS) return BAD;
        if (n < 0) return found(SIZE);
        made.make(lane, n);
        return fine(n);
    }

    public int set(int row, int i, int v) {
        Row changed = rowAt(row);
        if (changed == null) return BAD;
        int finding = changed.findingAt(i, 1);
        if (finding != 0) return found(finding);
        return fine(changed.put(i, v));
    }

    public int copy(int a, int i, int b, int j, int n) {
        Row source = rowAt(a);
        Row goal = rowAt(b);
        if (source == null || goal == null) return BAD;
        if (!source.here || !goal.here) return found(NULL);
        if (source.lane != goal.lane) return found(STORE);
        if (!source.holds(i, n) || !goal.holds(j, n)) return found(PLACE);
        System.arraycopy(source.items, i, goal.items, j, n);
        return fine(n);
    }

    public int drop(int row) {
        Row dropped = rowAt(row);
        if (dropped == null) return BAD;
        if (!dropped.here) return found(NULL);
        dropped.here = false;
        return fine(dropped.size);
    }

    // ---- boxes, runs

    public int feed(long w, int n) {
        if (n < 1 || n > 8) return BAD;
        if (tape.length + n > BYTES) return FULL;
        for (int i = n - 1; i >= 0; i--) tape.add((byte) (w >> 8 * i));
        return tape.length;
    }

    public int box() {
        Box told = tape.readBox();
        if (told == null) {
            latestFault = tape.fault;
            return FAULT_PLACES - tape.place;
        }
        scene.box = told;
        scene.run.end();
        return told.discs;
    }

    public int fault() {
        return latestFault;
    }

    public int shorter(int thread, int w, int what) {
        Cord cord = cordAt(thread);
        if (cord == null || w < 0 || w > MOST_TURNS || what < 0 || what > 1) return BAD;
        return what == 0 ? cord.shortBy(w) : cord.slopeAt(w);
    }

    public int begin(int disc, int thread, int hand, int t0) {
        Disc wheel = discAt(disc);
        Cord cord = cordAt(thread);
        Hand puller = handAt(hand);
        if (wheel == null || cord == null || puller == null) return BAD;
        if (t0 < -cord.most || t0 > cord.most) return BAD;
        scene.run.start(wheel, cord, puller, t0);
        return 1;
    }

    public int go(int n) {
        if (n < 1 || n > 200) return BAD;
        Run run = scene.run;
        Hand hand = run.hand;
        if (hand == null) return STATE;
        int went = 0;
        for (; went < n && !run.snapped; went++) run.tick(hand.pullIn(run), 0);
        return went;
    }

    public int pulls(int row, int i, int n) {
        Row told = rowAt(row);
        if (told == null || n < 1 || n > ITEMS) return BAD;
        Run run = scene.run;
        if (run.hand == null) return STATE;
        int finding = told.findingAt(i, n);
        if (finding != 0) return found(finding);
        if (!told.areWithin(i, n, MOST_FORCE)) return BAD;
        int went = 0;
        for (; went < n && !run.snapped; went++) run.tick(told.items[i + went], 0);
        return fine(went);
    }

    public int now(int what) {
        if (what < 0 || what > 8) return BAD;
        Run run = scene.run;
        if (run.hand == null) return STATE;
        switch (what) {
            case 0: return run.turns;
            case 1: return run.pace;
            case 2: return run.ticks;
            case 3: return run.snapped ? 1 : 0;
            case 4: return run.cord.shortBy(Math.abs(run.turns));
            case 5: return run.force;
            case 6: return run.fastest;
            case 7: return Math.abs(run.pace) * run.disc.teeth;
            default: return run.through;
        }
    }

    // ---- foretold

    public int greatest(int disc, int thread, int t0, int f, int n, int what) {
        if (what < 0 || what > 1 || !foretells(disc, thread, t0, f, n)) return BAD;
        int fastest = foretold.pulledPace();
        return what == 0 ? fastest : foretold.snaps() ? 1 : 0;
    }

    public int best(int t0, int f, int n) {
        Box told = scene.box;
        if (told == null) return STATE;
        if (t0 < 1 || t0 > MOST_TURNS || !isPull(f, n)) return BAD;
        return foretold.bestOf(told, t0, f, n);
    }

    public int from(int disc, int thread, int t0, int f, int n) {
        return foretells(disc, thread, t0, f, n) ? foretold.bestFrom() : BAD;
    }

    public int late(int disc, int thread, int t0, int f, int n) {
        return foretells(disc, thread, t0, f, n) ? foretold.latestGrowing() : BAD;
    }

    public int parts(int disc, int thread, int t0, int f, int clear) {
        if (clear < 1 || clear > 999999 || !foretells(disc, thread, t0, f, 1)) return BAD;
        return foretold.partingTicks(clear);
    }

    public int lamp(int disc, int thread, int t0, int f, int n) {
        return foretells(disc, thread, t0, f, n) ? foretold.greatestLamp() : BAD;
    }

    public int wobble(int disc, int o) {
        Disc wheel = discAt(disc);
        if (wheel == null || o < 1 || o > 50) return BAD;
        return wheel.greatestPaceOffBy(o);
    }

    public int sound(int disc, int row, int i, int n, int what) {
        Disc wheel = discAt(disc);
        Row tones = rowAt(row);
        if (wheel == null || tones == null || n < 2 || n > ITEMS || what < 0 || what > 1) return BAD;
        int finding = tones.findingAt(i, n);
        if (finding != 0) return found(finding);
        if (!tones.areWithin(i, n, MOST_TONE)) return BAD;
        return fine(what == 0 ? wheel.pullsHeard(tones.items, i, n) : tones.greatestItem(i, n) / wheel.teeth);
    }

    public int tune(int disc, int thread, int t0, int row, int i, int k) {
        Row tones = rowAt(row);
        if (tones == null || k < 1 || k > 3 || !foretells(disc, thread, t0, 0, 1)) return BAD;
        int finding = tones.findingAt(i, k);
        if (finding != 0) return found(finding);
        if (!tones.areWithin(i, k, MOST_TONE)) return BAD;
        latestForces = foretold.forcesFor(tones.items, i, k);
        return fine(foretold.leastOff);
    }

    public int forces() {
        return latestForces;
    }

    public int image(int k) {
        if (k < 0 || k >= IMAGES) return BAD;
        if (scene.box == null) return STATE;
        images[k].become(scene);
        return 1;
    }

    public int restore(int k) {
        if (k < 0 || k >= IMAGES) return BAD;
        if (images[k].box == null) return STATE;
        scene.become(images[k]);
        return 1;
    }

    // ---- asked

    public int kind() {
        return scene.run.hand == null ? STATE : scene.run.toldAs();
    }

    public int as(int kind) {
        Run run = scene.run;
        if (run.hand == null) return STATE;
        if (kind < TIME || kind > SNAPPED) return BAD;
        return run.isOne(kind) ? fine(run.ticks) : found(KIND);
    }

    public int ask(int what) {
        if (scene.run.hand == null) return STATE;
        if (what < 0 || what > 1) return BAD;
        asked.about(scene.run);
        return what == 0 ? asked.size() : asked.mark();
    }

    public int trace(int i) {
        return i < 0 || i >= asked.left ? NONE : asked.bodies[i];
    }

    public int count(int what) {
        if (what < 0 || what > 5) return BAD;
        if (what == 0) return rowsHere();
        if (what == 5) return tape.length;
        Box told = scene.box;
        if (told == null) return 0;
        switch (what) {
            case 1: return told.discs;
            case 2: return told.cords;
            case 3: return told.hands;
            default: return told.rulesOfAll();
        }
    }

    public int status() {
        return latestFinding;
    }

    // ---- what the calls share

    private int found(int finding) {
        latestFinding = finding;
        return FINDINGS - finding;
    }

    private int fine(int answer) {
        latestFinding = 0;
        return answer;
    }

    private Row rowAt(int i) {
        return i < 0 || i >= ROWS ? null : rows[i];
    }

    private int rowsHere() {
        int here = 0;
        for (Row row : rows) {
            if (row.here) here++;
        }
        return here;
    }

    private Disc discAt(int i) {
        Box told = scene.box;
        return told == null || i < 0 || i >= told.discs ? null : told.discOf[i];
    }

    private Cord cordAt(int i) {
        Box told = scene.box;
        return told == null || i < 0 || i >= told.cords ? null : told.cordOf[i];
    }

    private Hand handAt(int i) {
        Box told = scene.box;
        return told == null || i < 0 || i >= told.hands ? null : told.handOf[i];
    }

    /** Whether these are as told: what is asked of foretold next is about them then. */
    private boolean foretells(int disc, int thread, int t0, int f, int n) {
        Disc wheel = discAt(disc);
        Cord cord = cordAt(thread);
        if (wheel == null || cord == null || t0 < 1 || t0 > cord.most || !isPull(f, n)) return false;
        foretold.about(wheel, cord, t0, f, n);
        return true;
    }

    private static boolean isPull(int f, int n) {
        return f >= 0 && f <= MOST_FORCE && n >= 1 && n <= 300;
    }

    /** A ROW, which keeps its room while it is missing. */
    private static final class Row {
        final int[] items = new int[ITEMS];
        boolean here;
        int lane;
        int size;

        void make(int lane, int size) {
            here = true;
            this.lane = lane;
            this.size = size;
            Arrays.fill(items, 0);
        }

        boolean holds(int i, int n) {
            return i >= 0 && n >= 0 && (long) i + n <= size;
        }

        int findingAt(int i, int n) {
            if (!here) return NULL;
            return holds(i, n) ? 0 : PLACE;
        }

        int put(int i, int v) {
            if (!holds(i, 1)) return 0;
            items[i] = lane == 0 ? (byte) v : lane == 1 ? (short) v : v;
            return items[i];
        }

        boolean areWithin(int i, int n, int most) {
            if (!holds(i, n)) return false;
            for (int k = i; k < i + n; k++) {
                if (items[k] < 0 || items[k] > most) return false;
            }
            return true;
        }

        int greatestItem(int i, int n) {
            int greatest = 0;
            if (!holds(i, n)) return greatest;
            for (int k = i; k < i + n; k++) greatest = Math.max(greatest, items[k]);
            return greatest;
        }
    }

    /** WEIGHT and TEETH divide: none is below 1, as only a text without a FAULT makes a DISC. */
    private static final class Disc {
        final int weight;
        final int air;
        final int teeth;

        Disc(int weight, int air, int teeth) {
            this.weight = weight;
            this.air = air;
            this.teeth = teeth;
        }

        /** A pace without its sign, behind the air; its square needs a long. */
        int behindAir(int speed) {
            long less = (long) speed * speed / 1000 * air / 100;
            return (int) Math.max(0, speed - less);
        }

        int greatestPaceOffBy(int o) {
            int pace = 0;
            // 400 is beyond every answer: a WEIGHT of 999 is passed at 317, o being 1.
            for (int v = 1; v <= 400 && o * v * v / 100 <= weight; v++) pace = v;
            return pace;
        }

        int pullsHeard(int[] tones, int i, int n) {
            int pulls = 0;
            boolean falling = false;
            for (int k = i + 1; k < i + n; k++) {
                int ahead = tones[k - 1] / teeth;
                int pace = tones[k] / teeth;
                if (pace > ahead && falling) pulls++;
                if (pace != ahead) falling = pace < ahead;
            }
            return pulls;
        }
    }

    /** A THREAD. */
    private static final class Cord {
        final int thick;
        final int twist;
        final int most;
        final int snap;

        Cord(int thick, int twist, int most, int snap) {
            this.thick = thick;
            this.twist = twist;
            this.most = most;
            this.snap = snap;
        }

        int shortBy(int w) {
            if (w <= twist) return shortBefore(w);
            return shortBefore(twist) + (w - twist) * (2 * (shortBefore(twist) - shortBefore(twist - 1)) + 1);
        }

        int slopeAt(int w) {
            return w <= 0 ? 0 : shortBy(w) - shortBy(w - 1);
        }

        /** SHORT of a w up to TWIST. */
        private int shortBefore(int w) {
            return w * w * thick / 1000;
        }
    }

    private static final class Rule {
        static final int WOUND = 0, PACE = 1, GIVE = 2, TICK = 3;

        final int what;
        final boolean above;
        final int limit;
        final int force;

        Rule(int what, boolean above, int limit, int force) {
            this.what = what;
            this.above = above;
            this.limit = limit;
            this.force = force;
        }

        boolean isMetBy(Run run) {
            int felt = run.felt(what);
            return above ? felt > limit : felt < limit;
        }
    }

    private static final class Hand {
        static final int MOST_RULES = 6;

        final Rule[] ruleOf = new Rule[MOST_RULES];
        int rules;

        boolean hasRoom() {
            return rules < MOST_RULES;
        }

        void add(Rule rule) {
            if (hasRoom()) ruleOf[rules++] = rule;
        }

        int pullIn(Run run) {
            for (int i = 0; i < rules; i++) {
                if (ruleOf[i].isMetBy(run)) return ruleOf[i].force;
            }
            return 0;
        }
    }

    /** A BOX; as nothing in it changes once it is read, IMAGES share it. */
    private static final class Box {
        static final int OF_A_SORT = 4;

        final Disc[] discOf = new Disc[OF_A_SORT];
        final Cord[] cordOf = new Cord[OF_A_SORT];
        final Hand[] handOf = new Hand[OF_A_SORT];
        int discs;
        int cords;
        int hands;

        void addDisc(Disc disc) {
            if (discs < OF_A_SORT) discOf[discs++] = disc;
        }

        void addCord(Cord cord) {
            if (cords < OF_A_SORT) cordOf[cords++] = cord;
        }

        void addHand(Hand hand) {
            if (hands < OF_A_SORT) handOf[hands++] = hand;
        }

        int rulesOfAll() {
            int rules = 0;
            for (int i = 0; i < hands; i++) rules += handOf[i].rules;
            return rules;
        }
    }

    /** THE TAPE, and the reading of it, TOKEN by TOKEN: behind a FAULT nothing is taken from it. */
    private static final class Tape {
        private static final int END = 0, NAME = 1, NUMBER = 2, SIGN = 3, NO_TOKEN = 4;
        private static final int CANNOT_STAND = 1, NOT_AS_TOLD = 2, NO_ROOM = 3;

        private final byte[] bytes = new byte[BYTES];
        int length;
        int fault;
        int place;
        private int sort;
        private int first;
        private int behind;
        private int number;

        void add(byte b) {
            if (length < BYTES) bytes[length++] = b;
        }

        /** The BOX that the tape tells, or null for a FAULT. The tape is empty then. */
        Box readBox() {
            Box box = new Box();
            fault = 0;
            behind = 0;
            nextToken();
            for (int i = 0; i <= Box.OF_A_SORT && (i == 0 || stands("disc")); i++) readDisc(box);
            for (int i = 0; i <= Box.OF_A_SORT && (i == 0 || stands("thread")); i++) readThread(box);
            for (int i = 0; i <= Box.OF_A_SORT && (i == 0 || stands("hand")); i++) readHand(box);
            if (sort != END) fail(CANNOT_STAND);
            length = 0;
            return fault == 0 ? box : null;
        }

        private void readDisc(Box box) {
            take(stands("disc"), box.discs < Box.OF_A_SORT);
            int weight = takeNumber(1, 999);
            int air = takeNumber(0, 99);
            int teeth = takeNumber(1, 60);
            take(sort == SIGN, true);
            if (fault == 0) box.addDisc(new Disc(weight, air, teeth));
        }

        private void readThread(Box box) {
            take(stands("thread"), box.cords < Box.OF_A_SORT);
            int thick = takeNumber(1, 99);
            int twist = takeNumber(1, 400);
            int most = takeNumber(twist, MOST_TURNS);
            int snap = takeNumber(1, 999);
            take(sort == SIGN, true);
            if (fault == 0) box.addCord(new Cord(thick, twist, most, snap));
        }

        private void readHand(Box box) {
            take(stands("hand"), box.hands < Box.OF_A_SORT);
            take(sort == SIGN, true);
            if (fault != 0) return;
            Hand hand = new Hand();
            for (int i = 0; i <= Hand.MOST_RULES && stands("when"); i++) readRule(hand);
            box.addHand(hand);
        }

        private void readRule(Hand hand) {
            take(stands("when"), hand.hasRoom());
            int what = whatStands();
            take(what != NONE, true);
            boolean above = stands("above");
            take(above || stands("below"), true);
            int limit = takeNumber(-999, 9999);
            take(stands("pull"), true);
            int force = takeNumber(0, MOST_FORCE);
            take(sort == SIGN, true);
            if (fault == 0) hand.add(new Rule(what, above, limit, force));
        }

        private int whatStands() {
            if (stands("wound")) return Rule.WOUND;
            if (stands("pace")) return Rule.PACE;
            if (stands("give")) return Rule.GIVE;
            return stands("tick") ? Rule.TICK : NONE;
        }

        private void take(boolean mayStand, boolean room) {
            if (!mayStand) fail(CANNOT_STAND);
            else if (!room) fail(NO_ROOM);
            else if (fault == 0) nextToken();
        }

        private int takeNumber(int least, int most) {
            if (fault != 0) return 0;
            int taken = number;
            if (sort != NUMBER) fail(CANNOT_STAND);
            else if (taken < least || taken > most) fail(NOT_AS_TOLD);
            else nextToken();
            return taken;
        }

        private void fail(int why) {
            if (fault != 0) return;
            fault = why;
            place = first;
        }

        /** Whether the TOKEN is this NAME; behind a FAULT there is none. */
        private boolean stands(String word) {
            if (fault != 0 || sort != NAME || behind - first != word.length()) return false;
            for (int i = 0; i < word.length(); i++) {
                if (bytes[first + i] != word.charAt(i)) return false;
            }
            return true;
        }

        private void nextToken() {
            first = behind;
            while (first < length && (bytes[first] == ' ' || bytes[first] == '\n')) first++;
            behind = first;
            while (behind < length && bytes[behind] >= 'a' && bytes[behind] <= 'z') behind++;
            if (first >= length) {
                sort = END;
            } else if (behind > first) {
                sort = NAME;
            } else if (bytes[first] == ';') {
                sort = SIGN;
                behind++;
            } else {
                nextNumber();
            }
        }

        private void nextNumber() {
            boolean minus = bytes[first] == '-';
            int figures = minus ? first + 1 : first;
            number = 0;
            behind = figures;
            while (behind < length && bytes[behind] >= '0' && bytes[behind] <= '9') {
                // The fifth figure spoils it anyhow, and many more would not fit an int.
                if (behind - figures < 4) number = 10 * number + bytes[behind] - '0';
                behind++;
            }
            if (minus) number = -number;
            sort = behind == figures || behind - figures > 4 ? NO_TOKEN : NUMBER;
        }
    }

    /** A RUN; there is none while it has no hand (but for RUNS that are foretold, which need none). */
    private static final class Run {
        Disc disc;
        Cord cord;
        Hand hand;
        int turns;
        int turnsAgo;
        int pace;
        /** The latest TICK's pace without its sign, behind the air, ahead of what the THREAD's end does to it. */
        int speed;
        int fastest;
        int ticks;
        int force;
        int through;
        boolean snapped;

        void start(Disc disc, Cord cord, Hand hand, int t0) {
            this.disc = disc;
            this.cord = cord;
            this.hand = hand;
            turns = t0;
            turnsAgo = t0;
            pace = 0;
            speed = 0;
            fastest = 0;
            ticks = 0;
            force = NONE;
            through = 0;
            snapped = false;
        }

        void end() {
            hand = null;
        }

        void become(Run other) {
            disc = other.disc;
            cord = other.cord;
            hand = other.hand;
            turns = other.turns;
            turnsAgo = other.turnsAgo;
            pace = other.pace;
            speed = other.speed;
            fastest = other.fastest;
            ticks = other.ticks;
            force = other.force;
            through = other.through;
            snapped = other.snapped;
        }

        int felt(int what) {
            switch (what) {
                case Rule.WOUND: return Math.abs(turns);
                case Rule.PACE: return Math.abs(pace);
                case Rule.GIVE: return cord.shortBy(Math.abs(turns)) - cord.shortBy(Math.abs(turnsAgo));
                default: return ticks;
            }
        }

        boolean unwinds() {
            return pace == 0 || isTurningBack();
        }

        private boolean isTurningBack() {
            return pace < 0 && turns > 0 || pace > 0 && turns < 0;
        }

        /** A TICK by F, in which a lamp takes its part behind the air. */
        void tick(int f, int lamp) {
            int push = f * cord.slopeAt(Math.abs(turns)) * 10 / disc.weight;
            int pushed = turns > 0 ? pace - push : pace + push;
            speed = Math.max(0, disc.behindAir(Math.abs(pushed)) - lamp);
            pace = pushed < 0 ? -speed : speed;
            fastest = Math.max(fastest, speed);
            turnsAgo = turns;
            turns += pace;
            if (Math.abs(turns) > cord.most) stop();
            if (turnsAgo != 0 && (turns == 0 || turns < 0 != turnsAgo < 0)) through++;
            ticks++;
            force = f;
        }

        /** The THREAD is at its end. */
        private void stop() {
            turns = turns < 0 ? -cord.most : cord.most;
            snapped = speed > cord.snap;
            pace = 0;
        }

        int toldAs() {
            if (snapped) return SNAPPED;
            if (pace == 0) return DEAD;
            if (isTurningBack()) return UNWINDING;
            return Math.abs(turns) > cord.twist ? OVER : WINDING;
        }

        boolean isOne(int kind) {
            int told = toldAs();
            return kind == TIME || kind == told || kind == WINDING && told == OVER || kind == DEAD && told == SNAPPED;
        }
    }

    /** BOX and RUN: those that are, or an IMAGE of them. */
    private static final class Scene {
        final Run run = new Run();
        Box box;

        void become(Scene other) {
            box = other.box;
            run.become(other.run);
        }
    }

    /** RUNS of their own from t0 at rest, all by the one Run here. */
    private static final class Foretold {
        private static final int LATEST = 30, BRIGHTEST = 50, PARTING_TICKS = 500, TUNE_TICKS = 120, TONES = 3;

        private final Run run = new Run();
        private final int[] pull = new int[TONES];
        private final int[] loud = new int[TONES];
        private Disc disc;
        private Cord cord;
        private int t0;
        private int f;
        private int n;
        /** How far off the tones the forces are that forcesFor() told. */
        int leastOff;

        void about(Disc disc, Cord cord, int t0, int f, int n) {
            this.disc = disc;
            this.cord = cord;
            this.t0 = t0;
            this.f = f;
            this.n = n;
        }

        boolean snaps() {
            return run.snapped;
        }

        private void start() {
            run.start(disc, cord, null, t0);
        }

        int pulledPace() {
            start();
            for (int i = 0; i < n && !run.snapped; i++) run.tick(run.unwinds() ? f : 0, 0);
            return run.fastest;
        }

        int bestOf(Box box, int t0, int f, int n) {
            int best = NONE;
            int most = -1;
            for (int d = 0; d < box.discs; d++) {
                for (int c = 0; c < box.cords; c++) {
                    about(box.discOf[d], box.cordOf[c], Math.min(t0, box.cordOf[c].most), f, n);
                    int fastest = pulledPace();
                    if (run.snapped || fastest <= most) continue;
                    most = fastest;
                    best = 8 * d + c;
                }
            }
            return best;
        }

        int bestFrom() {
            int best = NONE;
            int most = -1;
            int next = t0;
            for (int w = t0; w >= 0; w--) {
                // Between the two the RUN would be the same as the one before.
                if (w > next) continue;
                next = pulledFrom(w);
                if (run.snapped || run.fastest <= most) continue;
                most = run.fastest;
                best = w;
            }
            return best;
        }

        /** Pulls from w on, and gives the greatest lesser w by which some TICK's F would be another; -1: by none. */
        private int pulledFrom(int w) {
            int next = -1;
            start();
            for (int i = 0; i < n && !run.snapped; i++) {
                int wound = Math.abs(run.turns);
                boolean unwinds = run.unwinds();
                if (unwinds && wound < w) next = Math.max(next, wound);
                run.tick(unwinds && wound >= w ? f : 0, 0);
            }
            return next;
        }

        int latestGrowing() {
            int latest = NONE;
            for (int l = 0; l <= LATEST && growsLateBy(l); l++) latest = l;
            return latest;
        }

        private boolean growsLateBy(int l) {
            int unwound = 0;
            start();
            for (int i = 0; i < n && !run.snapped; i++) {
                unwound = run.unwinds() ? unwound + 1 : 0;
                run.tick(unwound > l ? f : 0, 0);
                int wound = Math.abs(run.turns);
                if (wound > t0 || wound == cord.most && Math.abs(run.turnsAgo) < wound) return true;
            }
            return false;
        }

        int partingTicks(int clear) {
            long squares = 0;
            start();
            for (int i = 1; i <= PARTING_TICKS && !run.snapped; i++) {
                run.tick(run.unwinds() ? f : 0, 0);
                squares += (long) run.speed * run.speed;
                if (squares >= 10L * clear) return i;
            }
            return NONE;
        }

        int greatestLamp() {
            for (int p = BRIGHTEST; p >= 0; p--) {
                if (goesThroughWith(p)) return p;
            }
            return NONE;
        }

        private boolean goesThroughWith(int p) {
            start();
            for (int i = 0; i < n && !run.snapped && run.through < 3; i++) run.tick(run.unwinds() ? f : 0, p);
            return run.through >= 3;
        }

        /** The forces that come nearest to k tones (1 to 3); leastOff tells how near. */
        int forcesFor(int[] tones, int i, int k) {
            int best = 0;
            int all = k == 1 ? 10 : k == 2 ? 100 : 1000;
            for (int forces = 0; forces < all; forces++) {
                playBy(forces, k);
                int off = 0;
                for (int j = 0; j < k; j++) off += Math.abs(loud[j] * disc.teeth - tones[i + j]);
                if (forces > 0 && off >= leastOff) continue;
                leastOff = off;
                best = forces;
            }
            return best;
        }

        /** Behind the k-th time through 0 no tone is heard any more, so that the RUN may end there. */
        private void playBy(int forces, int k) {
            int left = forces;
            for (int j = k - 1; j >= 0; j--) {
                pull[j] = 10 * (left % 10);
                loud[j] = 0;
                left /= 10;
            }
            start();
            for (int i = 0; i < TUNE_TICKS && !run.snapped && run.through < k; i++) {
                int j = run.through;
                boolean unwinds = run.unwinds();
                run.tick(unwinds ? pull[j] : 0, 0);
                if (unwinds) loud[j] = Math.max(loud[j], run.speed);
            }
        }
    }

    /** ASKS of a TIME, and THE TRACE of the latest one's BODIES. */
    private static final class Asked {
        final int[] bodies = new int[16];
        int left;
        private Run time;
        private int told;

        void about(Run run) {
            time = run;
            told = run.toldAs();
            left = 0;
        }

        private void leave(int body) {
            if (left < bodies.length) bodies[left++] = body;
        }

        int size() {
            switch (told) {
                case UNWINDING:
                    leave(11);
                    return lentSize() + mark();
                case WINDING:
                    return windingSize();
                case OVER:
                    leave(13);
                    return 2 * windingSize();
                default:
                    return deadSize();
            }
        }

        private int lentSize() {
            leave(10);
            return Math.abs(time.turns);
        }

        private int windingSize() {
            leave(12);
            return lentSize() - mark();
        }

        private int deadSize() {
            leave(14);
            return -lentSize();
        }

        int mark() {
            switch (told) {
                case UNWINDING:
                    leave(21);
                    return lentMark() + Math.abs(time.pace);
                case OVER:
                    leave(22);
                    return lentMark() + 1000;
                case DEAD:
                    return deadMark();
                case SNAPPED:
                    leave(24);
                    return -deadMark();
                default:
                    return lentMark();
            }
        }

        private int lentMark() {
            leave(20);
            return time.ticks;
        }

        /** SIZE of a DEAD one is asked by its name: what it is told as gives no other. */
        private int deadMark() {
            leave(23);
            return lentMark() + deadSize();
        }
    }
}
