/**
 * The rope ladder over the lake, its rungs, and those who go up it.
 * What every call must answer stands in the document, DOC.md.
 */
public final class LadderSprings {
    public static final int NONE = -1000000, BAD = -1000001, STATE = -1000002, FULL = -1000003;

    private static final int FINDINGS = -1000010;
    private static final int NULL = 1, PLACE = 2, KIND = 3, SIZE = 4, STORE = 5;
    private static final int FAULTS = -1000100;

    private static final int MOST_ROWS = 8, MOST_ITEMS = 40, LANES = 3;
    private static final int MOST_BYTES = 100;
    private static final int MOST_RUNGS = 9, MOST_GOERS = 6, KINDS = 5;
    private static final int MOST_WEIGHT = 30, MOST_START = 30, MOST_STRENGTH = 99, MOST_ROPE = 99;
    private static final int MOST_ACTS = 24, IMAGES = 2, LAST_HOUR = 999;
    private static final int MOST_AHEAD = 60, MOST_SOUGHT = 30, MOST_TOLD = 12;
    private static final int MOST_TRACED = 16;
    private static final int MOST_SEED = 999999;

    private static final int CLIMBER = 1, DRAPER = 2, CURATE = 3, FETCHER = 4, GIRL = 5;
    private static final int BOAT = 0, NO_STEP = -1;

    private final Row[] rows = new Row[MOST_ROWS];
    private final Tape tape = new Tape();
    private final Lake lake, draft;
    private final Lake[] acts = new Lake[MOST_ACTS];
    private final Lake[] images = new Lake[IMAGES];
    private final Foretold foretold;
    private final Asked asked = new Asked();
    private int oldestAct, keptActs;
    private int keptImages;
    private int latestFault;
    private int latestFinding;

    public LadderSprings() {
        Goer[] kinds = {null, new Climber(), new Draper(), new Curate(), new Fetcher(), new Girl()};
        lake = new Lake(kinds);
        draft = new Lake(kinds);
        foretold = new Foretold(kinds);
        for (int i = 0; i < MOST_ROWS; i++) {
            rows[i] = new Row();
        }
        for (int i = 0; i < MOST_ACTS; i++) {
            acts[i] = new Lake(kinds);
        }
        for (int i = 0; i < IMAGES; i++) {
            images[i] = new Lake(kinds);
        }
    }

    // ---- rows

    public int row(int row, int lane, int n) {
        if (!isRow(row) || !isWithin(lane, 0, LANES - 1) || n > MOST_ITEMS) {
            return BAD;
        }
        if (n < 0) {
            return found(SIZE);
        }
        rows[row].renew(lane, n);
        return fine(n);
    }

    public int set(int row, int i, int v) {
        if (!isRow(row)) {
            return BAD;
        }
        Row one = rows[row];
        if (one.isMissing()) {
            return found(NULL);
        }
        if (!one.hasSpan(i, 1)) {
            return found(PLACE);
        }
        return fine(one.put(i, v));
    }

    public int copy(int a, int i, int b, int j, int n) {
        if (!isRow(a) || !isRow(b)) {
            return BAD;
        }
        Row from = rows[a];
        Row to = rows[b];
        if (from.isMissing() || to.isMissing()) {
            return found(NULL);
        }
        if (from.lane != to.lane) {
            return found(STORE);
        }
        if (!from.hasSpan(i, n) || !to.hasSpan(j, n)) {
            return found(PLACE);
        }
        System.arraycopy(from.items, i, to.items, j, n);
        return fine(n);
    }

    public int drop(int row) {
        if (!isRow(row)) {
            return BAD;
        }
        Row one = rows[row];
        if (one.isMissing()) {
            return found(NULL);
        }
        int had = one.size;
        one.lose();
        return fine(had);
    }

    // ---- what is told

    public int feed(int letter) {
        if (!isWithin(letter, 0, 255)) {
            return BAD;
        }
        if (tape.size >= MOST_BYTES) {
            return FULL;
        }
        return tape.take(letter);
    }

    public int lake() {
        boolean whole = tape.readInto(draft);
        tape.size = 0;
        if (!whole) {
            latestFault = tape.fault;
            return FAULTS - tape.at;
        }
        putLake(draft);
        return lake.goers;
    }

    public int fault() {
        return latestFault;
    }

    public int undo() {
        if (keptActs <= 0) {
            return STATE;
        }
        keptActs--;
        lake.become(acts[(oldestAct + keptActs) % MOST_ACTS]);
        return keptActs;
    }

    // ---- what is done

    public int hours(int n) {
        if (hasNoLake()) {
            return STATE;
        }
        if (!isWithin(n, 1, MOST_ACTS)) {
            return BAD;
        }
        if (lake.hour + n > LAST_HOUR) {
            return FULL;
        }
        for (int h = 0; h < n; h++) {
            keepAct();
            lake.runHour();
        }
        return lake.whoIsAt(lake.top());
    }

    public int begin(int goer, int n) {
        if (!isGoer(goer) || !isWithin(n, 0, MOST_START)) {
            return BAD;
        }
        int was = lake.start[goer];
        keepAct();
        lake.start[goer] = n;
        return was;
    }

    public int hold(int goer, int on) {
        if (!isGoer(goer) || !isWithin(on, 0, 1)) {
            return BAD;
        }
        if (lake.isHeld(goer) == (on == 1)) {
            return STATE;
        }
        keepAct();
        lake.held ^= 1 << goer;
        return lake.held;
    }

    public int mend(int rung) {
        if (!isRung(rung)) {
            return BAD;
        }
        int had = lake.strength[rung + 1];
        keepAct();
        lake.strength[rung + 1] = MOST_STRENGTH;
        return had;
    }

    public int takeOut(int rung) {
        if (!isRung(rung)) {
            return BAD;
        }
        if (lake.isBroken(rung + 1)) {
            return STATE;
        }
        keepAct();
        return lake.breakAt(rung + 1);
    }

    public int goer(int goer, int what) {
        if (!isGoer(goer)) {
            return BAD;
        }
        switch (what) {
            case 0: return lake.place[goer];
            case 1: return lake.weight[goer];
            case 2: return lake.start[goer];
            case 3: return lake.loadOf(goer);
            case 4: return lake.isOnWayUp(goer) ? 1 : 0;
            case 5: return lake.isHeld(goer) ? 1 : 0;
            case 6: return lake.fell[goer];
            default: return BAD;
        }
    }

    public int rung(int rung, int what) {
        if (!isRung(rung)) {
            return BAD;
        }
        switch (what) {
            case 0: return lake.strength[rung + 1];
            case 1: return lake.loadAt(rung + 1);
            case 2: return lake.whoIsAt(rung + 1);
            default: return BAD;
        }
    }

    public int stand(int what) {
        if (hasNoLake()) {
            return STATE;
        }
        switch (what) {
            case 0: return lake.whoIsAt(lake.top());
            case 1: return lake.whoIsAt(BOAT);
            case 2: return lake.loadOnRungs();
            case 3: return lake.brokenRungs();
            case 4: return lake.held;
            default: return BAD;
        }
    }

    // ---- foretold

    public int ahead(int goer, int n) {
        if (!isGoer(goer) || !isWithin(n, 0, MOST_AHEAD)) {
            return BAD;
        }
        return foretold.after(lake, n).place[goer];
    }

    public int strength(int rung, int n) {
        if (!isRung(rung) || !isWithin(n, 0, MOST_AHEAD)) {
            return BAD;
        }
        return foretold.after(lake, n).strength[rung + 1];
    }

    public int above(int goer) {
        return isGoer(goer) ? foretold.whenAbove(lake, goer) : BAD;
    }

    public int broken(int rung) {
        return isRung(rung) ? foretold.whenBroken(lake, 1 << rung) : BAD;
    }

    public int first(int what) {
        if (hasNoLake()) {
            return STATE;
        }
        if (!isWithin(what, 0, 1)) {
            return BAD;
        }
        int sound = lake.allRungs() & ~lake.brokenRungs();
        int when = foretold.whenBroken(lake, sound);
        if (when == NONE || what == 1) {
            return when;
        }
        return lowestOf(foretold.trial.brokenRungs() & sound);
    }

    public int falls(int n) {
        if (hasNoLake()) {
            return STATE;
        }
        if (!isWithin(n, 0, MOST_AHEAD)) {
            return BAD;
        }
        return foretold.after(lake, n).allFalls() - lake.allFalls();
    }

    public int mends(int goer, int n, int what) {
        if (!isGoer(goer) || !isWithin(n, 1, MOST_SOUGHT) || !isWithin(what, 0, 1)) {
            return BAD;
        }
        return countOrSet(foretold.fewestMended(lake, goer, n), what);
    }

    public int holds(int goer, int n, int what) {
        if (!isGoer(goer) || !isWithin(n, 1, MOST_SOUGHT) || !isWithin(what, 0, 1)) {
            return BAD;
        }
        return countOrSet(foretold.fewestHeld(lake, goer, n), what);
    }

    public int line(int n, int k) {
        if (hasNoLake()) {
            return STATE;
        }
        if (!isWithin(n, 1, MOST_AHEAD) || k < -1) {
            return BAD;
        }
        foretold.seekLine(lake, n);
        if (k == -1) {
            return foretold.bestAbove;
        }
        return k < foretold.inLine ? foretold.bestOrder[k] : NONE;
    }

    public int heavy(int n) {
        if (hasNoLake()) {
            return STATE;
        }
        if (!isWithin(n, 1, MOST_AHEAD)) {
            return BAD;
        }
        return foretold.greatestWeight(lake, n);
    }

    public int who(int goer, int which, int other, int row, int i, int n) {
        if (!isGoer(goer) || !isWithin(which, 0, 2) || !isGoer(other)
                || !isRow(row) || !isWithin(n, 1, MOST_TOLD)) {
            return BAD;
        }
        int finding = findingOfSpan(rows[row], i, n);
        if (finding != 0) {
            return found(finding);
        }
        foretold.told(rows[row], i, n, other);
        switch (which) {
            case 0: return fine(foretold.kindsThatFit(lake, goer));
            case 1: return fine(foretold.weightsThatFit(lake, goer));
            default: return fine(foretold.startsThatFit(lake, goer));
        }
    }

    public int rotten(int goer, int row, int i, int n) {
        if (!isGoer(goer) || !isRow(row) || !isWithin(n, 1, MOST_TOLD)) {
            return BAD;
        }
        int finding = findingOfSpan(rows[row], i, n);
        if (finding != 0) {
            return found(finding);
        }
        foretold.told(rows[row], i, n, goer);
        return fine(foretold.rottenThatFit(lake));
    }

    public long risk(int goer, int n, int p, int what) {
        if (!isGoer(goer) || !isWithin(n, 0, MOST_SOUGHT)
                || !isWithin(p, 0, 10) || !isWithin(what, 0, 1)) {
            return BAD;
        }
        foretold.seekRisk(lake, goer, n, p);
        return what == 0 ? foretold.riskAbove : foretold.riskBelow;
    }

    public int drawn(int n, int seed, int what) {
        if (hasNoLake()) {
            return STATE;
        }
        if (!isWithin(n, 0, MOST_AHEAD) || !isWithin(seed, 1, MOST_SEED) || !isWithin(what, 0, 1)) {
            return BAD;
        }
        Lake then = foretold.afterDraws(lake, n, seed);
        return what == 0 ? then.howManyAbove() : then.allFalls() - lake.allFalls();
    }

    public int image(int k) {
        if (!isWithin(k, 0, IMAGES - 1)) {
            return BAD;
        }
        if (hasNoLake()) {
            return STATE;
        }
        images[k].become(lake);
        keptImages |= 1 << k;
        return 1;
    }

    public int restore(int k) {
        if (!isWithin(k, 0, IMAGES - 1)) {
            return BAD;
        }
        if ((keptImages >> k & 1) == 0) {
            return STATE;
        }
        putLake(images[k]);
        return 1;
    }

    // ---- asked

    public int kind(int one) {
        return isGoer(one) ? lake.kind[one] : BAD;
    }

    public int as(int one, int kind) {
        if (!isGoer(one) || !isWithin(kind, 0, KINDS)) {
            return BAD;
        }
        return isOfKind(lake.sortOf(one), kind) ? fine(one) : found(KIND);
    }

    public int ask(int one, int what) {
        if (!isGoer(one) || !isWithin(what, 0, 1)) {
            return BAD;
        }
        Goer sort = lake.sortOf(one);
        if (sort == null) {
            return BAD;
        }
        asked.turnTo(lake, one);
        return what == 0 ? sort.tellSize(asked) : sort.tellMark(asked);
    }

    public int trace(int i) {
        return i >= 0 && i < asked.traced ? asked.bodies[i] : NONE;
    }

    public int count(int what) {
        switch (what) {
            case 0: return howManyRows();
            case 1: return lake.rungs;
            case 2: return lake.goers;
            case 3: return lake.hour;
            case 4: return lake.howManyAbove();
            case 5: return lake.allFalls();
            case 6: return keptActs;
            case 7: return tape.size;
            default: return BAD;
        }
    }

    public int status() {
        return latestFinding;
    }

    // ---- what the calls share

    private static boolean isWithin(int v, int least, int most) {
        return v >= least && v <= most;
    }

    private static boolean isRow(int row) {
        return isWithin(row, 0, MOST_ROWS - 1);
    }

    private boolean isGoer(int goer) {
        return isWithin(goer, 0, lake.goers - 1);
    }

    private boolean isRung(int rung) {
        return isWithin(rung, 0, lake.rungs - 1);
    }

    private boolean hasNoLake() {
        return lake.rungs == 0;
    }

    private int found(int finding) {
        latestFinding = finding;
        return FINDINGS - finding;
    }

    private int fine(int answer) {
        latestFinding = 0;
        return answer;
    }

    private static int findingOfSpan(Row one, int i, int n) {
        if (one.isMissing()) {
            return NULL;
        }
        return one.hasSpan(i, n) ? 0 : PLACE;
    }

    private static int lowestOf(int bits) {
        return Integer.bitCount((bits & -bits) - 1);
    }

    private static int countOrSet(int bits, int what) {
        if (bits == NONE) {
            return NONE;
        }
        return what == 0 ? Integer.bitCount(bits) : bits;
    }

    private static boolean isOfKind(Goer sort, int kind) {
        switch (kind) {
            case CLIMBER: return sort instanceof Climber;
            case DRAPER: return sort instanceof Draper;
            case CURATE: return sort instanceof Curate;
            case FETCHER: return sort instanceof Fetcher;
            case GIRL: return sort instanceof Girl;
            default: return sort != null;
        }
    }

    private int howManyRows() {
        int n = 0;
        for (int i = 0; i < MOST_ROWS; i++) {
            if (!rows[i].isMissing()) {
                n++;
            }
        }
        return n;
    }

    private void putLake(Lake other) {
        lake.become(other);
        keptActs = 0;
    }

    /** Keeps the lake as it is ahead of an act; the ring forgets the oldest when it is full. */
    private void keepAct() {
        acts[(oldestAct + keptActs) % MOST_ACTS].become(lake);
        if (keptActs < MOST_ACTS) {
            keptActs++;
        } else {
            oldestAct = (oldestAct + 1) % MOST_ACTS;
        }
    }

    /** A row of items; its array is made once, so that no call needs room of its own. */
    private static final class Row {
        private static final int MISSING = -1;

        final int[] items = new int[MOST_ITEMS];
        int lane;
        int size = MISSING;

        boolean isMissing() {
            return size == MISSING;
        }

        void lose() {
            size = MISSING;
        }

        void renew(int newLane, int n) {
            lane = newLane;
            size = n;
            for (int i = 0; i < MOST_ITEMS; i++) {
                items[i] = 0;
            }
        }

        /** The subtraction stands on the side of size, so that nothing can wrap around. */
        boolean hasSpan(int i, int n) {
            return i >= 0 && n >= 0 && i <= size - n;
        }

        int put(int i, int v) {
            items[i] = lane == 0 ? (byte) v : lane == 1 ? (short) v : v;
            return items[i];
        }
    }

    /** The tape, and the reader of the text on it. */
    private static final class Tape {
        private static final int END = -1, NUMBER = -2, NO_TOKEN = -3;
        private static final int CANNOT_STAND = 1, NOT_AS_TOLD = 2, NO_ROOM = 3;
        private static final int MOST_FIGURES = 2;

        final int[] bytes = new int[MOST_BYTES];
        int size;
        int at;
        int fault;
        private int token, length, value;

        int take(int letter) {
            bytes[size] = letter;
            size++;
            return size;
        }

        /** When it answers false, fault and at tell the fault and its place. */
        boolean readInto(Lake lake) {
            at = 0;
            length = 0;
            next();
            return readLaw(lake) && readRungs(lake) && readGoers(lake);
        }

        private boolean readLaw(Lake lake) {
            if (!pass('l')) {
                return false;
            }
            int rungs = numberThen(2, MOST_RUNGS, ',');
            if (rungs < 0) {
                return false;
            }
            int rope = numberThen(1, MOST_ROPE, ';');
            if (rope < 0) {
                return false;
            }
            lake.hang(rungs, rope);
            return true;
        }

        private boolean readRungs(Lake lake) {
            for (int p = 1; p <= lake.rungs; p++) {
                if (!pass('r')) {
                    return false;
                }
                int strength = numberThen(0, MOST_STRENGTH, ';');
                if (strength < 0) {
                    return false;
                }
                lake.strength[p] = strength;
            }
            return token != 'r' || blame(NO_ROOM);
        }

        private boolean readGoers(Lake lake) {
            for (int g = 0; g < MOST_GOERS; g++) {
                if (g > 0 && token == END) {
                    return true;
                }
                int kind = kindOf(token);
                if (kind == 0) {
                    return blame(CANNOT_STAND);
                }
                next();
                int weight = numberThen(1, MOST_WEIGHT, ',');
                if (weight < 0) {
                    return false;
                }
                int start = numberThen(0, MOST_START, ';');
                if (start < 0) {
                    return false;
                }
                lake.addGoer(kind, weight, start);
            }
            return token == END || blame(kindOf(token) == 0 ? CANNOT_STAND : NO_ROOM);
        }

        private static int kindOf(int letter) {
            switch (letter) {
                case 'c': return CLIMBER;
                case 'd': return DRAPER;
                case 'k': return CURATE;
                case 'f': return FETCHER;
                case 'g': return GIRL;
                default: return 0;
            }
        }

        /** The number that is next, with the sign behind it; below 0 if there is a fault. */
        private int numberThen(int least, int most, char sign) {
            if (token != NUMBER) {
                blame(CANNOT_STAND);
                return -1;
            }
            if (!isWithin(value, least, most)) {
                blame(NOT_AS_TOLD);
                return -1;
            }
            int number = value;
            next();
            return pass(sign) ? number : -1;
        }

        private boolean pass(char wanted) {
            if (token != wanted) {
                return blame(CANNOT_STAND);
            }
            next();
            return true;
        }

        private boolean blame(int number) {
            fault = number;
            return false;
        }

        /** A byte that is no token stands for itself: nothing that can stand is equal to it. */
        private void next() {
            at += length;
            length = 1;
            if (at >= size) {
                token = END;
                length = 0;
            } else if (isFigure(bytes[at])) {
                readFigures();
            } else {
                token = bytes[at];
            }
        }

        private void readFigures() {
            int end = at;
            value = 0;
            while (end < size && end - at <= MOST_FIGURES && isFigure(bytes[end])) {
                value = value * 10 + bytes[end] - '0';
                end++;
            }
            length = end - at;
            token = length > MOST_FIGURES ? NO_TOKEN : NUMBER;
        }

        private static boolean isFigure(int b) {
            return b >= '0' && b <= '9';
        }
    }

    /** A ladder with its goers at one time. Goers are numbered from 0 on, places as the document has them. */
    private static final class Lake {
        private final Goer[] kinds;
        private final int[] loads = new int[MOST_RUNGS + 1];
        final int[] strength = new int[MOST_RUNGS + 1];
        final int[] kind = new int[MOST_GOERS];
        final int[] weight = new int[MOST_GOERS];
        final int[] start = new int[MOST_GOERS];
        final int[] place = new int[MOST_GOERS];
        final int[] fell = new int[MOST_GOERS];
        int rungs, rope, goers, hour;
        int held, down;

        Lake(Goer[] kinds) {
            this.kinds = kinds;
        }

        void become(Lake other) {
            rungs = other.rungs;
            rope = other.rope;
            goers = other.goers;
            hour = other.hour;
            held = other.held;
            down = other.down;
            System.arraycopy(other.strength, 0, strength, 0, MOST_RUNGS + 1);
            System.arraycopy(other.kind, 0, kind, 0, MOST_GOERS);
            System.arraycopy(other.weight, 0, weight, 0, MOST_GOERS);
            System.arraycopy(other.start, 0, start, 0, MOST_GOERS);
            System.arraycopy(other.place, 0, place, 0, MOST_GOERS);
            System.arraycopy(other.fell, 0, fell, 0, MOST_GOERS);
        }

        void hang(int newRungs, int newRope) {
            rungs = newRungs;
            rope = newRope;
            goers = 0;
            hour = 0;
            held = 0;
            down = 0;
        }

        void addGoer(int newKind, int newWeight, int newStart) {
            if (goers >= MOST_GOERS) {
                return;
            }
            kind[goers] = newKind;
            weight[goers] = newWeight;
            start[goers] = newStart;
            place[goers] = BOAT;
            fell[goers] = 0;
            goers++;
        }

        int top() {
            return rungs + 1;
        }

        Goer sortOf(int g) {
            return kinds[kind[g]];
        }

        int loadOf(int g) {
            return kind[g] == GIRL ? weight[g] / 2 : weight[g];
        }

        boolean isHeld(int g) {
            return (held >> g & 1) == 1;
        }

        boolean isOnWayUp(int g) {
            return (down >> g & 1) == 0;
        }

        boolean isAbove(int g) {
            return place[g] > rungs;
        }

        private boolean isOnRung(int g) {
            return place[g] != BOAT && place[g] <= rungs;
        }

        boolean isBroken(int p) {
            return p >= 1 && p <= rungs && strength[p] == 0;
        }

        int allRungs() {
            return (1 << rungs) - 1;
        }

        int brokenRungs() {
            int bits = 0;
            for (int p = 1; p <= rungs; p++) {
                if (strength[p] == 0) {
                    bits |= 1 << p - 1;
                }
            }
            return bits;
        }

        int whoIsAt(int p) {
            int bits = 0;
            for (int g = 0; g < goers; g++) {
                if (place[g] == p) {
                    bits |= 1 << g;
                }
            }
            return bits;
        }

        int howManyAbove() {
            return Integer.bitCount(whoIsAt(top()));
        }

        int loadAt(int p) {
            int load = 0;
            for (int g = 0; g < goers; g++) {
                if (place[g] == p) {
                    load += loadOf(g);
                }
            }
            return load;
        }

        int loadOnRungs() {
            int load = 0;
            for (int g = 0; g < goers; g++) {
                if (isOnRung(g)) {
                    load += loadOf(g);
                }
            }
            return load;
        }

        int allFalls() {
            int falls = 0;
            for (int g = 0; g < goers; g++) {
                falls += fell[g];
            }
            return falls;
        }

        private int upFrom(int p) {
            if (p > rungs) {
                return NO_STEP;
            }
            if (!isBroken(p + 1)) {
                return p + 1;
            }
            return isBroken(p + 2) ? NO_STEP : p + 2;
        }

        private int downFrom(int p) {
            if (p <= BOAT) {
                return NO_STEP;
            }
            if (!isBroken(p - 1)) {
                return p - 1;
            }
            return isBroken(p - 2) ? NO_STEP : p - 2;
        }

        private int highestSound() {
            int p = rungs;
            while (p >= 1 && strength[p] == 0) {
                p--;
            }
            return p;
        }

        boolean stepUp(int g) {
            int next = upFrom(place[g]);
            if (next == NO_STEP || place[g] == BOAT && loadOnRungs() + loadOf(g) > rope) {
                return false;
            }
            place[g] = next;
            return true;
        }

        void stepDown(int g) {
            int next = downFrom(place[g]);
            if (next == NO_STEP) {
                return;
            }
            place[g] = next;
            if (next == BOAT) {
                down &= ~(1 << g);
            }
        }

        /** One in the boat who cannot go up just waits. */
        void turnIfAtEnd(int g) {
            int p = place[g];
            if (p != BOAT && (p == highestSound() || upFrom(p) == NO_STEP)) {
                down |= 1 << g;
            }
        }

        void runHour() {
            for (int g = 0; g < goers; g++) {
                if (!isAbove(g) && !isHeld(g) && start[g] <= hour) {
                    Goer sort = sortOf(g);
                    if (sort != null) {
                        sort.climb(this, g);
                    }
                }
            }
            wear();
            hour++;
        }

        private void wear() {
            for (int p = 1; p <= rungs; p++) {
                loads[p] = 0;
            }
            for (int g = 0; g < goers; g++) {
                if (isOnRung(g)) {
                    loads[place[g]] += loadOf(g);
                }
            }
            for (int p = 1; p <= rungs; p++) {
                if (loads[p] > strength[p]) {
                    breakAt(p);
                } else if (loads[p] > 0) {
                    strength[p]--;
                    if (strength[p] == 0) {
                        breakAt(p);
                    }
                }
            }
        }

        /** Answers who fell. */
        int breakAt(int p) {
            int bits = 0;
            strength[p] = 0;
            for (int g = 0; g < goers; g++) {
                if (place[g] == p) {
                    bits |= 1 << g;
                    place[g] = BOAT;
                    fell[g]++;
                }
            }
            down &= ~bits;
            return bits;
        }

        /**
         * Whether hours alone might yet bring one above: nobody ever comes over two broken rungs
         * that lie together, and hours mend none. Spares the many trials hours that change nothing.
         */
        boolean mayRise(int g) {
            return place[g] >= highestGap() && place[g] <= rungs && !isHeld(g) && sortOf(g) instanceof Climber;
        }

        private int highestGap() {
            for (int p = rungs - 1; p >= 1; p--) {
                if (strength[p] == 0 && strength[p + 1] == 0) {
                    return p;
                }
            }
            return 0;
        }

        int howManyMayRise() {
            int n = 0;
            for (int g = 0; g < goers; g++) {
                if (mayRise(g)) {
                    n++;
                }
            }
            return n;
        }

        boolean isSameAs(Lake other) {
            if (rungs != other.rungs || rope != other.rope || goers != other.goers
                    || hour != other.hour || held != other.held || down != other.down) {
                return false;
            }
            for (int p = 1; p <= rungs; p++) {
                if (strength[p] != other.strength[p]) {
                    return false;
                }
            }
            for (int g = 0; g < goers; g++) {
                if (kind[g] != other.kind[g] || weight[g] != other.weight[g]
                        || start[g] != other.start[g] || place[g] != other.place[g]) {
                    return false;
                }
            }
            return true;
        }
    }

    /** What would be: all of it is tried on a lake of its own, so that nothing changes. */
    private static final class Foretold {
        private static final int AS_IT_IS = 1024;
        private static final int MOST_ORDERS = 720;
        private static final int MOST_DIVISIONS = 100;

        final Lake trial;
        private final Lake linedUp;
        private int linedHours;
        private final int[] order = new int[MOST_GOERS];
        final int[] bestOrder = new int[MOST_GOERS];
        int inLine, bestAbove;
        private final int[] free = new int[MOST_RUNGS];
        long riskAbove, riskBelow = 1;
        private Row toldRow;
        private int toldFrom, toldHours, toldGoer;

        Foretold(Goer[] kinds) {
            trial = new Lake(kinds);
            linedUp = new Lake(kinds);
        }

        Lake after(Lake now, int n) {
            trial.become(now);
            for (int h = 0; h < n; h++) {
                trial.runHour();
            }
            return trial;
        }

        int whenAbove(Lake now, int g) {
            trial.become(now);
            for (int h = 0; h < MOST_AHEAD && trial.mayRise(g); h++) {
                trial.runHour();
            }
            return trial.isAbove(g) ? trial.hour - now.hour : NONE;
        }

        /** When one of these rungs (bits) is broken first; the trial then stands at that hour. */
        int whenBroken(Lake now, int rungs) {
            trial.become(now);
            for (int h = 0; h <= MOST_AHEAD; h++) {
                if ((trial.brokenRungs() & rungs) != 0) {
                    return h;
                }
                trial.runHour();
            }
            return NONE;
        }

        private boolean comesAbove(int g, int n) {
            for (int h = 0; h < n && trial.mayRise(g); h++) {
                trial.runHour();
            }
            return trial.isAbove(g);
        }

        int fewestMended(Lake now, int g, int n) {
            for (int size = 0; size <= now.rungs; size++) {
                for (int bits = 0; bits <= now.allRungs(); bits++) {
                    if (Integer.bitCount(bits) != size) {
                        continue;
                    }
                    tryMended(now, bits);
                    if (comesAbove(g, n)) {
                        return bits;
                    }
                }
            }
            return NONE;
        }

        private void tryMended(Lake now, int bits) {
            trial.become(now);
            for (int p = 1; p <= now.rungs; p++) {
                if ((bits >> p - 1 & 1) == 1) {
                    trial.strength[p] = MOST_STRENGTH;
                }
            }
        }

        int fewestHeld(Lake now, int g, int n) {
            int others = (1 << now.goers) - 1 & ~now.held & ~(1 << g);
            for (int size = 0; size < now.goers; size++) {
                for (int bits = 0; bits <= others; bits++) {
                    if ((bits & ~others) != 0 || Integer.bitCount(bits) != size) {
                        continue;
                    }
                    trial.become(now);
                    trial.held |= bits;
                    if (comesAbove(g, n)) {
                        return bits;
                    }
                }
            }
            return NONE;
        }

        /** A line is asked for place by place: the orders are gone through once for all of them. */
        void seekLine(Lake now, int n) {
            if (linedHours == n && linedUp.isSameAs(now)) {
                return;
            }
            linedUp.become(now);
            linedHours = n;
            inLine = 0;
            for (int g = 0; g < now.goers; g++) {
                if (now.place[g] == BOAT && !now.isHeld(g)) {
                    order[inLine] = g;
                    inLine++;
                }
            }
            int hoped = now.howManyAbove() + now.howManyMayRise();
            bestAbove = -1;
            for (int i = 0; i < MOST_ORDERS && bestAbove < hoped; i++) {
                int above = aboveInOrder(now, n);
                if (above > bestAbove) {
                    bestAbove = above;
                    System.arraycopy(order, 0, bestOrder, 0, inLine);
                }
                if (!turnToNextOrder()) {
                    break;
                }
            }
        }

        private int aboveInOrder(Lake now, int n) {
            trial.become(now);
            for (int k = 0; k < inLine; k++) {
                trial.start[order[k]] = now.hour + k;
            }
            for (int h = 0; h < n && trial.howManyMayRise() > 0; h++) {
                trial.runHour();
            }
            return trial.howManyAbove();
        }

        private boolean turnToNextOrder() {
            int i = inLine - 2;
            while (i >= 0 && order[i] > order[i + 1]) {
                i--;
            }
            if (i < 0) {
                return false;
            }
            int j = inLine - 1;
            while (j > i && order[j] < order[i]) {
                j--;
            }
            swapInOrder(i, j);
            for (int a = i + 1, b = inLine - 1; a < b; a++, b--) {
                swapInOrder(a, b);
            }
            return true;
        }

        private void swapInOrder(int a, int b) {
            int kept = order[a];
            order[a] = order[b];
            order[b] = kept;
        }

        int greatestWeight(Lake now, int n) {
            if (now.goers >= MOST_GOERS) {
                return NONE;
            }
            for (int weight = MOST_WEIGHT; weight >= 1; weight--) {
                trial.become(now);
                trial.addGoer(CLIMBER, weight, now.hour);
                if (comesAbove(now.goers, n)) {
                    return weight;
                }
            }
            return NONE;
        }

        void told(Row row, int i, int n, int g) {
            toldRow = row;
            toldFrom = i;
            toldHours = n;
            toldGoer = g;
        }

        private boolean fitsWhatIsTold() {
            if (toldRow == null || !toldRow.hasSpan(toldFrom, toldHours)) {
                return false;
            }
            for (int h = 0; h < toldHours; h++) {
                trial.runHour();
                if (trial.place[toldGoer] != toldRow.items[toldFrom + h]) {
                    return false;
                }
            }
            return true;
        }

        int kindsThatFit(Lake now, int g) {
            int bits = 0;
            for (int kind = 1; kind <= KINDS; kind++) {
                trial.become(now);
                trial.kind[g] = kind;
                if (fitsWhatIsTold()) {
                    bits |= 1 << kind;
                }
            }
            return bits;
        }

        int weightsThatFit(Lake now, int g) {
            int bits = 0;
            for (int weight = 1; weight <= MOST_WEIGHT; weight++) {
                trial.become(now);
                trial.weight[g] = weight;
                if (fitsWhatIsTold()) {
                    bits |= 1 << weight;
                }
            }
            return bits;
        }

        int startsThatFit(Lake now, int g) {
            int bits = 0;
            for (int start = 0; start <= MOST_START; start++) {
                trial.become(now);
                trial.start[g] = start;
                if (fitsWhatIsTold()) {
                    bits |= 1 << start;
                }
            }
            return bits;
        }

        int rottenThatFit(Lake now) {
            trial.become(now);
            int bits = fitsWhatIsTold() ? AS_IT_IS : 0;
            for (int p = 1; p <= now.rungs; p++) {
                if (!now.isBroken(p)) {
                    trial.become(now);
                    trial.breakAt(p);
                    if (fitsWhatIsTold()) {
                        bits |= 1 << p - 1;
                    }
                }
            }
            return bits;
        }

        void seekRisk(Lake now, int g, int n, int p) {
            int rungs = findFreeRungs(now);
            riskAbove = 0;
            for (int bits = 0; bits < 1 << rungs; bits++) {
                int broken = Integer.bitCount(bits);
                long cases = power(p, broken) * power(10 - p, rungs - broken);
                if (cases == 0) {
                    continue;
                }
                tryBroken(now, bits);
                if (comesAbove(g, n)) {
                    riskAbove += cases;
                }
            }
            riskBelow = power(10, rungs);
            long common = commonDivisor(riskAbove, riskBelow);
            if (common > 1) {
                riskAbove /= common;
                riskBelow /= common;
            }
        }

        private int findFreeRungs(Lake now) {
            int n = 0;
            for (int p = 1; p <= now.rungs; p++) {
                if (!now.isBroken(p) && now.whoIsAt(p) == 0) {
                    free[n] = p;
                    n++;
                }
            }
            return n;
        }

        private void tryBroken(Lake now, int bits) {
            trial.become(now);
            for (int i = 0; i < MOST_RUNGS; i++) {
                if ((bits >> i & 1) == 1) {
                    trial.strength[free[i]] = 0;
                }
            }
        }

        private static long power(long base, int n) {
            long product = 1;
            for (int i = 0; i < n; i++) {
                product *= base;
            }
            return product;
        }

        private static long commonDivisor(long a, long b) {
            for (int i = 0; i < MOST_DIVISIONS && b != 0; i++) {
                long rest = a % b;
                a = b;
                b = rest;
            }
            return a;
        }

        Lake afterDraws(Lake now, int n, int seed) {
            trial.become(now);
            long x = seed;
            for (int h = 0; h < n; h++) {
                x = x * 16807 % 2147483647;
                draw(x);
                trial.runHour();
            }
            return trial;
        }

        private void draw(long x) {
            if (trial.rungs <= 0) {
                return;
            }
            int p = (int) (x % trial.rungs) + 1;
            if (x % 4 == 0) {
                trial.strength[p] = MOST_STRENGTH;
            } else if (x % 7 == 0 && !trial.isBroken(p)) {
                trial.breakAt(p);
            }
        }
    }

    /** The goer that is asked, and the trace that the bodies leave. */
    private static final class Asked {
        final int[] bodies = new int[MOST_TRACED];
        int traced;
        int number, weight, place;

        void turnTo(Lake lake, int g) {
            traced = 0;
            number = g;
            weight = lake.weight[g];
            place = lake.place[g];
        }

        void leave(int body) {
            if (traced < MOST_TRACED) {
                bodies[traced] = body;
                traced++;
            }
        }
    }

    /** A kind of goer: how it climbs, and the bodies by which it answers asks. */
    private abstract static class Goer {
        abstract void climb(Lake lake, int g);

        int tellSize(Asked asked) {
            asked.leave(10);
            return asked.weight;
        }

        int tellMark(Asked asked) {
            asked.leave(20);
            return asked.number;
        }
    }

    private static class Climber extends Goer {
        void climb(Lake lake, int g) {
            lake.stepUp(g);
        }

        int tellSize(Asked asked) {
            asked.leave(11);
            int lent = super.tellSize(asked);
            return lent + tellMark(asked);
        }

        int tellMark(Asked asked) {
            asked.leave(21);
            return super.tellMark(asked) + asked.place;
        }
    }

    private static final class Draper extends Climber {
        void climb(Lake lake, int g) {
            if (lake.stepUp(g)) {
                lake.stepUp(g);
            }
        }

        int tellSize(Asked asked) {
            asked.leave(12);
            return -super.tellSize(asked);
        }

        int tellMark(Asked asked) {
            asked.leave(24);
            return 2 * super.tellMark(asked);
        }
    }

    private static final class Curate extends Climber {
        void climb(Lake lake, int g) {
            if (lake.hour % 2 == 0) {
                lake.stepUp(g);
            }
        }

        int tellMark(Asked asked) {
            asked.leave(22);
            return super.tellMark(asked) - 1000;
        }
    }

    private static class Fetcher extends Goer {
        void climb(Lake lake, int g) {
            lake.turnIfAtEnd(g);
            if (lake.isOnWayUp(g)) {
                lake.stepUp(g);
            } else {
                lake.stepDown(g);
            }
        }

        int tellSize(Asked asked) {
            asked.leave(13);
            return super.tellSize(asked) - 100;
        }

        int tellMark(Asked asked) {
            asked.leave(23);
            int lent = super.tellMark(asked);
            return lent - tellSize(asked);
        }
    }

    private static final class Girl extends Fetcher {
        int tellSize(Asked asked) {
            asked.leave(14);
            return 2 * super.tellSize(asked);
        }
    }
}
