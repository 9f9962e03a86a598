/**
 * Bicycles that lie on one another and are caught in one another, and those who lift them.
 *
 * <p>Every row that a call needs is made once, in the constructor, and used again: what is
 * foretold is played on a spare YARD, so that the one that stands is never touched by it.
 */
public final class NineDown {
    public static final int NONE = -1000000, BAD = -1000001, STATE = -1000002, FULL = -1000003;

    private static final int FOUND = -1000010;
    private static final int FAULTY = -1000100;
    private static final int NULL = 1, PLACE = 2, KIND = 3, SIZE = 4, STORE = 5;
    private static final int ROWS = 8, ITEMS = 40, LANES = 3, BYTES = 0, SHORTS = 1;
    private static final int TAPE = 120, BIKES = 8, HOLDS = 10, LIFTERS = 4, IMAGES = 2;
    private static final int ACTS = 24, TRACED = 16, KINDS = 5, GAP_LIMIT = 20;
    private static final int LIES_ON = 0, CAUGHT = 1;
    private static final int LIFTED = 0, LOOSENED = 1, FELL_ANEW = 2, SPACED = 3;
    /** More than any row of lifts can cost, and yet two of it together are still an int. */
    private static final int FAR = 1 << 28;
    /** More than all SECONDS that eight lifts can take, so that a FALL outweighs them. */
    private static final int FALL_COST = 4096;

    private final Row[] rows = new Row[ROWS];
    private final Reader reader = new Reader();
    private final Yard[] images = new Yard[IMAGES];
    private final Acts acts = new Acts();
    private final Trace traced = new Trace();
    /** By a KIND, one of it: as whom a LIFTER is tried, with that one's FORCE. */
    private final Lifter[] guises = new Lifter[KINDS + 1];
    /** The least cost of a BIKE's lift, by the BIKE and how many CATCHES it has. */
    private final int[] liftCost = new int[BIKES * BIKES];
    /** The least cost till all are UP, by the BIKES (bits) that are DOWN. */
    private final int[] restCost = new int[1 << BIKES];
    private Yard yard = new Yard();
    private Yard spare = new Yard();
    private int finding;

    public NineDown() {
        for (int i = 0; i < ROWS; i++) {
            rows[i] = new Row();
        }
        for (int i = 0; i < IMAGES; i++) {
            images[i] = new Yard();
        }
        for (int kind = 1; kind <= KINDS; kind++) {
            guises[kind] = lifterOf(kind, 0, 0);
        }
    }

    // ---- rows

    public int row(int row, int lane, int n) {
        Row one = rowAt(row);
        if (one == null || !within(lane, 0, LANES - 1) || n > ITEMS) {
            return BAD;
        }
        if (n < 0) {
            return found(SIZE);
        }
        one.begin(lane, n);
        return clean(n);
    }

    public int set(int row, int i, int v) {
        Row one = rowAt(row);
        if (one == null) {
            return BAD;
        }
        if (!one.there) {
            return found(NULL);
        }
        if (!one.spans(i, 1)) {
            return found(PLACE);
        }
        one.items[i] = one.cut(v);
        return clean(one.items[i]);
    }

    public int copy(int a, int i, int b, int j, int n) {
        Row from = rowAt(a);
        Row to = rowAt(b);
        if (from == null || to == null) {
            return BAD;
        }
        if (!from.there || !to.there) {
            return found(NULL);
        }
        if (from.lane != to.lane) {
            return found(STORE);
        }
        if (!from.spans(i, n) || !to.spans(j, n)) {
            return found(PLACE);
        }
        System.arraycopy(from.items, i, to.items, j, n);
        return clean(n);
    }

    public int drop(int row) {
        Row one = rowAt(row);
        if (one == null) {
            return BAD;
        }
        if (!one.there) {
            return found(NULL);
        }
        one.there = false;
        return clean(one.size);
    }

    // ---- what is told

    public int feed(int letter) {
        if (!within(letter, 0, 255)) {
            return BAD;
        }
        return reader.accepts(letter) ? reader.length : FULL;
    }

    public int yard() {
        boolean good = reader.readsInto(spare);
        if (!good) {
            return FAULTY - reader.start;
        }
        Yard before = yard;
        yard = spare;
        spare = before;
        acts.forget();
        return yard.bikes;
    }

    public int fault() {
        return reader.fault;
    }

    public int undo() {
        return acts.takesBack(yard) ? acts.kept : STATE;
    }

    // ---- what is done

    public int lift(int lifter, int bike) {
        Lifter one = yard.lifterAt(lifter);
        if (one == null || !yard.hasBike(bike)) {
            return BAD;
        }
        int fallsBefore = yard.falls;
        int took = yard.raise(one, bike);
        if (took == NONE) {
            return STATE;
        }
        acts.keep(LIFTED, bike, took, yard.falls - fallsBefore);
        return took;
    }

    public int loosen(int hold) {
        if (!yard.hasHold(hold)) {
            return BAD;
        }
        if (yard.sort[hold] != CAUGHT || yard.isLoose(hold)) {
            return STATE;
        }
        yard.turn(hold);
        yard.seconds += yard.looseTime;
        acts.keep(LOOSENED, hold, yard.looseTime, 0);
        return yard.seconds;
    }

    public int fall(int bike) {
        if (!yard.hasBike(bike)) {
            return BAD;
        }
        if (!yard.fallsAnew(bike)) {
            return STATE;
        }
        acts.keep(FELL_ANEW, bike, 0, 1);
        return yard.falls;
    }

    public int space(int bike, int gap) {
        if (!yard.hasBike(bike) || !within(gap, 1, GAP_LIMIT)) {
            return BAD;
        }
        int before = yard.gap[bike];
        yard.gap[bike] = gap;
        acts.keepGap(bike, before);
        return before;
    }

    public int bike(int bike, int what) {
        if (!yard.hasBike(bike)) {
            return BAD;
        }
        switch (what) {
            case 0:
                return yard.weight[bike];
            case 1:
                return yard.gap[bike];
            case 2:
                return has(yard.down, bike) ? 1 : 0;
            case 3:
                return yard.isFree(bike, yard.down) ? 1 : 0;
            case 4:
                return yard.catches(bike, yard.down);
            default:
                return BAD;
        }
    }

    public int hold(int hold, int what) {
        if (!yard.hasHold(hold)) {
            return BAD;
        }
        switch (what) {
            case 0:
                return yard.sort[hold];
            case 1:
                return yard.upper[hold];
            case 2:
                return yard.lower[hold];
            case 3:
                return yard.isLoose(hold) ? 1 : 0;
            default:
                return BAD;
        }
    }

    public int takes(int lifter, int bike, int what) {
        Lifter one = yard.lifterAt(lifter);
        if (one == null || !yard.hasBike(bike) || !within(what, 0, 1)) {
            return BAD;
        }
        if (!yard.canRaise(one, bike)) {
            return NONE;
        }
        int catches = yard.catches(bike, yard.down);
        return what == 0 ? one.secondsFor(yard.weight[bike], catches, yard) : one.fallsFor(catches);
    }

    public int stand(int what) {
        if (!yard.isRead()) {
            return STATE;
        }
        switch (what) {
            case 0:
                return yard.seconds;
            case 1:
                return yard.falls;
            case 2:
                return yard.down;
            case 3:
                return yard.freeOnes();
            default:
                return BAD;
        }
    }

    // ---- foretold (LIFTERS told as bits)

    public int soonest(int lifters, int what) {
        if (!yard.isRead()) {
            return STATE;
        }
        if (!areLifters(lifters) || !within(what, 0, 1)) {
            return BAD;
        }
        int cost = leastCost(lifters, false);
        if (cost >= FAR) {
            return NONE;
        }
        return what == 0 ? cost : firstLift(lifters, false);
    }

    public int gentlest(int lifters, int what) {
        if (!yard.isRead()) {
            return STATE;
        }
        if (!areLifters(lifters) || !within(what, 0, 2)) {
            return BAD;
        }
        int cost = leastCost(lifters, true);
        if (cost >= FAR) {
            return NONE;
        }
        if (what == 2) {
            return firstLift(lifters, true);
        }
        return what == 0 ? cost / FALL_COST : cost % FALL_COST;
    }

    public int never(int lifters) {
        if (!yard.isRead()) {
            return STATE;
        }
        return areLifters(lifters) ? yard.leftBy(lifters) : BAD;
    }

    public int fetch(int what) {
        if (!yard.isRead()) {
            return STATE;
        }
        if (!within(what, 0, 1)) {
            return BAD;
        }
        int fewest = NONE;
        for (int set = 0; set < 1 << yard.lifters; set++) {
            boolean fewer = fewest == NONE || Integer.bitCount(set) < Integer.bitCount(fewest);
            if (fewer && yard.leftBy(set) == 0) {
                fewest = set;
            }
        }
        return what == 0 && fewest != NONE ? Integer.bitCount(fewest) : fewest;
    }

    public int layer(int bike) {
        return yard.hasBike(bike) ? yard.layerOf(bike) : BAD;
    }

    public int fell(int bike, int way) {
        return yard.hasBike(bike) && within(way, 0, 1) ? yard.goDown(bike, way) : BAD;
    }

    public int first(int row, int i) {
        if (!yard.isRead()) {
            return STATE;
        }
        Row one = rowAt(row);
        if (one == null) {
            return BAD;
        }
        if (!one.there) {
            return found(NULL);
        }
        if (!one.spans(i, yard.bikes)) {
            return found(PLACE);
        }
        int right = 0;
        int left = 0;
        for (int bike = 0; bike < yard.bikes; bike++) {
            right |= tells(one, i, yard.goDown(bike, 1)) ? 1 << bike : 0;
            left |= tells(one, i, yard.goDown(bike, 0)) ? 1 << bike : 0;
        }
        return clean(right + 256 * left);
    }

    public int widen(int m, int what) {
        if (!yard.isRead()) {
            return STATE;
        }
        if (!within(m, 1, BIKES) || !within(what, 0, 1)) {
            return BAD;
        }
        int best = (1 << (yard.bikes - 1)) - 1;
        for (int set = best - 1; set >= 0; set--) {
            boolean noMore = Integer.bitCount(set) <= Integer.bitCount(best);
            if (noMore && yard.longestRun(set) <= m) {
                best = set;
            }
        }
        return what == 0 ? Integer.bitCount(best) : best;
    }

    public int plan(int row, int i, int n, int what) {
        if (!yard.isRead()) {
            return STATE;
        }
        Row one = rowAt(row);
        if (one == null || !within(n, 0, ITEMS) || !within(what, 0, 2)) {
            return BAD;
        }
        if (!one.there) {
            return found(NULL);
        }
        if (!one.spans(i, n)) {
            return found(PLACE);
        }
        spare.become(yard);
        int done = 0;
        while (done < n && follows(one.items[i + done])) {
            done++;
        }
        return clean(what == 0 ? done : spent(what - 1));
    }

    public int who(int lifter, int row, int i, int n) {
        Lifter one = yard.lifterAt(lifter);
        Row told = rowAt(row);
        if (one == null || told == null || !within(n, 1, BIKES)) {
            return BAD;
        }
        if (!told.there) {
            return found(NULL);
        }
        if (!told.spans(i, 2 * n)) {
            return found(PLACE);
        }
        for (int k = 0; k < n; k++) {
            if (!yard.hasBike(told.items[i + 2 * k])) {
                return BAD;
            }
        }
        int kinds = 0;
        for (int kind = 1; kind <= KINDS; kind++) {
            guises[kind].force = one.force;
            kinds |= liftsAs(guises[kind], told, i, n) ? 1 << kind : 0;
        }
        return clean(kinds);
    }

    public long seen(int p, int n, int k, int what) {
        if (!within(p, 0, 10) || !within(n, 0, 9) || !within(k, 0, n) || !within(what, 0, 1)) {
            return BAD;
        }
        long ways = 1;
        long above = 0;
        for (int times = 0; times <= n; times++) {
            if (times >= k) {
                above += ways * power(p, times) * power(10 - p, n - times);
            }
            ways = ways * (n - times) / (times + 1);
        }
        long below = power(10, n);
        long shared = commonDivisor(below, above);
        if (shared == 0) {
            return BAD;
        }
        return what == 0 ? above / shared : below / shared;
    }

    public int drawn(int n, int seed, int what) {
        if (!yard.isRead()) {
            return STATE;
        }
        if (!within(n, 0, 60) || !within(seed, 1, 999999) || !within(what, 0, 1)) {
            return BAD;
        }
        spare.become(yard);
        long x = seed;
        for (int day = 0; day < n; day++) {
            x = x * 16807 % 2147483647;
            passDay(x);
        }
        return spent(what);
    }

    public int image(int k) {
        if (!within(k, 0, IMAGES - 1)) {
            return BAD;
        }
        if (!yard.isRead()) {
            return STATE;
        }
        images[k].become(yard);
        return 1;
    }

    public int restore(int k) {
        if (!within(k, 0, IMAGES - 1)) {
            return BAD;
        }
        if (!images[k].isRead()) {
            return STATE;
        }
        yard.become(images[k]);
        acts.forget();
        return 1;
    }

    // ---- asked

    public int kind(int one) {
        Lifter lifter = yard.lifterAt(one);
        return lifter == null ? BAD : lifter.kindNumber();
    }

    public int as(int one, int kind) {
        Lifter lifter = yard.lifterAt(one);
        if (lifter == null || !within(kind, 0, KINDS)) {
            return BAD;
        }
        return isOf(lifter, kind) ? clean(one) : found(KIND);
    }

    public int ask(int one, int what) {
        Lifter lifter = yard.lifterAt(one);
        if (lifter == null || !within(what, 0, 1)) {
            return BAD;
        }
        traced.begin(Integer.bitCount(yard.down));
        return what == 0 ? lifter.size(traced) : lifter.mark(traced);
    }

    public int trace(int i) {
        return within(i, 0, traced.length - 1) ? traced.numbers[i] : NONE;
    }

    public int count(int what) {
        switch (what) {
            case 0:
                return rowsThere();
            case 1:
                return yard.bikes;
            case 2:
                return yard.holds;
            case 3:
                return yard.lifters;
            case 4:
                return yard.seconds;
            case 5:
                return yard.falls;
            case 6:
                return acts.kept;
            case 7:
                return reader.length;
            default:
                return BAD;
        }
    }

    public int status() {
        return finding;
    }

    // ---- within

    private static boolean within(int x, int low, int high) {
        return x >= low && x <= high;
    }

    private static boolean has(int bits, int i) {
        return (bits >> i & 1) != 0;
    }

    private Row rowAt(int row) {
        return within(row, 0, ROWS - 1) ? rows[row] : null;
    }

    private int rowsThere() {
        int there = 0;
        for (int i = 0; i < ROWS; i++) {
            there += rows[i].there ? 1 : 0;
        }
        return there;
    }

    private int found(int number) {
        finding = number;
        return FOUND - number;
    }

    private int clean(int answer) {
        finding = 0;
        return answer;
    }

    private boolean areLifters(int bits) {
        return within(bits, 0, (1 << yard.lifters) - 1);
    }

    /** What the lifts played on the spare YARD came to: 0 SECONDS, 1 FALLS. */
    private int spent(int what) {
        return what == 0 ? spare.seconds - yard.seconds : spare.falls - yard.falls;
    }

    /** Whether ITEMS from i on are 1 where a BIKE is among the told ones, and 0 elsewhere. */
    private boolean tells(Row one, int i, int bikes) {
        for (int bike = 0; bike < yard.bikes; bike++) {
            if (one.items[i + bike] != (has(bikes, bike) ? 1 : 0)) {
                return false;
            }
        }
        return true;
    }

    /** Plays a lift, told as 10 times the LIFTER, and the BIKE, if it can be. */
    private boolean follows(int told) {
        if (told < 0) {
            return false;
        }
        Lifter one = spare.lifterAt(told / 10);
        return one != null && spare.hasBike(told % 10) && spare.raise(one, told % 10) != NONE;
    }

    private boolean liftsAs(Lifter one, Row told, int i, int n) {
        spare.become(yard);
        for (int k = 0; k < n; k++) {
            int took = spare.raise(one, told.items[i + 2 * k]);
            // an ITEM may be the very number that NONE is
            if (took == NONE || took != told.items[i + 2 * k + 1]) {
                return false;
            }
        }
        return true;
    }

    private void passDay(long x) {
        if (spare.lifters == 0 || spare.bikes == 0) {
            return;
        }
        int bike = (int) (x % spare.bikes);
        Lifter one = spare.lifterAt((int) (x % spare.lifters));
        if (one != null) {
            spare.raise(one, bike);
        }
        if (x % 7 == 0) {
            spare.fallsAnew(bike);
        }
    }

    /** The least cost till all are UP by LIFTERS (bits); FAR or more: it can not be. */
    private int leastCost(int set, boolean gentle) {
        for (int bike = 0; bike < yard.bikes; bike++) {
            int most = Integer.bitCount(yard.caught[bike]);
            for (int catches = 0; catches <= most && catches < BIKES; catches++) {
                liftCost[bike * BIKES + catches] = leastLiftCost(set, bike, catches, gentle);
            }
        }
        restCost[0] = 0;
        for (int down = 1; down <= yard.down; down++) {
            if ((down & ~yard.down) == 0) {
                restCost[down] = leastRestCost(down);
            }
        }
        return restCost[yard.down];
    }

    private int leastLiftCost(int set, int bike, int catches, boolean gentle) {
        int least = FAR;
        for (int i = 0; i < yard.lifters; i++) {
            if (has(set, i)) {
                least = Math.min(least, costOf(i, bike, catches, gentle));
            }
        }
        return least;
    }

    /** What a lift costs, if the BIKE is FREE. */
    private int costOf(int lifter, int bike, int catches, boolean gentle) {
        Lifter one = yard.lifterAt(lifter);
        if (one == null || !one.manages(yard.weight[bike], catches)) {
            return FAR;
        }
        int seconds = one.secondsFor(yard.weight[bike], catches, yard);
        return gentle ? one.fallsFor(catches) * FALL_COST + seconds : seconds;
    }

    private int leastRestCost(int down) {
        int least = FAR;
        for (int bike = 0; bike < yard.bikes; bike++) {
            if (yard.isFree(bike, down)) {
                int cost = liftCost[bike * BIKES + yard.catches(bike, down)];
                least = Math.min(least, cost + restCost[down & ~(1 << bike)]);
            }
        }
        return least;
    }

    /** The least first lift of a row that costs the least, once that cost is known. */
    private int firstLift(int set, boolean gentle) {
        for (int i = 0; i < yard.lifters; i++) {
            for (int bike = 0; has(set, i) && bike < yard.bikes; bike++) {
                if (beginsBest(i, bike, gentle)) {
                    return 10 * i + bike;
                }
            }
        }
        return NONE;
    }

    private boolean beginsBest(int lifter, int bike, boolean gentle) {
        if (!yard.isFree(bike, yard.down)) {
            return false;
        }
        int cost = costOf(lifter, bike, yard.catches(bike, yard.down), gentle);
        return cost + restCost[yard.down & ~(1 << bike)] == restCost[yard.down];
    }

    private static long power(long base, int times) {
        long product = 1;
        for (int i = 0; i < times; i++) {
            product *= base;
        }
        return product;
    }

    private static long commonDivisor(long a, long b) {
        long whole = a;
        long rest = b;
        // a rest is at least halved by every two steps: 128 are enough for any two longs
        for (int i = 0; i < 128 && rest != 0; i++) {
            long next = whole % rest;
            whole = rest;
            rest = next;
        }
        return whole;
    }

    private static Lifter lifterOf(int kind, int number, int force) {
        switch (kind) {
            case 1:
                return new Top(number, force);
            case 2:
                return new Freeing(number, force);
            case 3:
                return new Pair(number, force);
            case 4:
                return new Going(number, force);
            default:
                return new Note(number, force);
        }
    }

    private static boolean isOf(Lifter one, int kind) {
        switch (kind) {
            case 0:
                return true;
            case 1:
                return one instanceof Top;
            case 2:
                return one instanceof Freeing;
            case 3:
                return one instanceof Pair;
            case 4:
                return one instanceof Going;
            default:
                return one instanceof Note;
        }
    }

    /** A ROW; its ITEMS are kept as ints, cut to its LANE as they are set. */
    private static final class Row {
        final int[] items = new int[ITEMS];
        boolean there;
        int lane;
        int size;

        void begin(int ofLane, int n) {
            there = true;
            lane = ofLane;
            size = n;
            for (int i = 0; i < ITEMS; i++) {
                items[i] = 0;
            }
        }

        /** Whether n places from i on are there; written so that no sum can wrap around. */
        boolean spans(int i, int n) {
            return i >= 0 && n >= 0 && i <= size && n <= size - i;
        }

        int cut(int v) {
            if (lane == BYTES) {
                return (byte) v;
            }
            return lane == SHORTS ? (short) v : v;
        }
    }

    /** The tape, and how it is read. */
    private static final class Reader {
        private static final int END = -1, NO_TOKEN = 0, FIGURES = '0';

        private final int[] tape = new int[TAPE];
        private int length;
        private int fault;
        private int next;
        private int start;
        private int token;
        private int value;

        boolean accepts(int letter) {
            if (length >= TAPE) {
                return false;
            }
            tape[length] = letter;
            length++;
            return true;
        }

        boolean readsInto(Yard y) {
            next = 0;
            y.clear();
            boolean good = readLaw(y) && readBikes(y) && readHolds(y) && readLifters(y);
            length = 0;
            return good;
        }

        private boolean readLaw(Yard y) {
            if (!sign('y') || !number(1, 9)) {
                return false;
            }
            y.reach = value;
            if (!sign(',') || !number(0, 9)) {
                return false;
            }
            y.looseTime = value;
            if (!sign(',') || !number(0, 20)) {
                return false;
            }
            y.noteTime = value;
            return sign(';');
        }

        private boolean readBikes(Yard y) {
            boolean good = sign('k');
            for (int i = 0; i <= BIKES && good && token == 'k'; i++) {
                good = readBike(y) && endOfPart();
            }
            return good;
        }

        private boolean readBike(Yard y) {
            if (y.bikes >= BIKES) {
                return refuse(3);
            }
            if (!number(1, 30)) {
                return false;
            }
            int weight = value;
            if (!sign(',') || !number(1, GAP_LIMIT)) {
                return false;
            }
            y.addBike(weight, value);
            return true;
        }

        private boolean readHolds(Yard y) {
            boolean good = true;
            for (int i = 0; i <= HOLDS && good && (token == 'o' || token == 'c'); i++) {
                good = readHold(y, token == 'o' ? LIES_ON : CAUGHT) && endOfPart();
            }
            return good;
        }

        private boolean readHold(Yard y, int sort) {
            if (y.holds >= HOLDS) {
                return refuse(3);
            }
            if (!number(0, y.bikes - 1)) {
                return false;
            }
            int a = value;
            if (!sign(',') || !number(0, y.bikes - 1)) {
                return false;
            }
            if (a == value || y.isHeld(sort, a, value)) {
                return refuse(2);
            }
            y.addHold(sort, a, value);
            return true;
        }

        private boolean readLifters(Yard y) {
            boolean good = true;
            for (int i = 0; i <= LIFTERS && good && kindTold() != 0; i++) {
                int kind = kindTold();
                good = readForce(y);
                if (good) {
                    y.addLifter(lifterOf(kind, y.lifters, value));
                    good = endOfPart();
                }
            }
            return good && (token == END || refuse(1));
        }

        private boolean readForce(Yard y) {
            return y.lifters < LIFTERS ? number(1, 40) : refuse(3);
        }

        private int kindTold() {
            switch (token) {
                case 't':
                    return 1;
                case 'f':
                    return 2;
                case 'p':
                    return 3;
                case 'g':
                    return 4;
                case 'n':
                    return 5;
                default:
                    return 0;
            }
        }

        /** The sign behind a bike, a hold, a lifter; the TOKEN behind it tells what follows. */
        private boolean endOfPart() {
            if (!sign(';')) {
                return false;
            }
            advance();
            return true;
        }

        private boolean sign(int wanted) {
            advance();
            return token == wanted || refuse(1);
        }

        private boolean number(int low, int high) {
            advance();
            if (token != FIGURES) {
                return refuse(1);
            }
            return within(value, low, high) || refuse(2);
        }

        private boolean refuse(int number) {
            fault = number;
            return false;
        }

        private void advance() {
            start = next;
            if (next >= length) {
                token = END;
                return;
            }
            int letter = tape[next];
            if (letter >= '0' && letter <= '9') {
                advanceNumber();
                return;
            }
            next++;
            boolean known = within(letter, 'a', 'z') || letter == ',' || letter == ';';
            token = known ? letter : NO_TOKEN;
        }

        private void advanceNumber() {
            value = 0;
            while (next < length && tape[next] >= '0' && tape[next] <= '9') {
                // a longer run is no TOKEN, whatever its value: it need not be kept whole
                value = Math.min(value * 10 + tape[next] - '0', 1000);
                next++;
            }
            token = next - start <= 2 ? FIGURES : NO_TOKEN;
        }
    }

    /** A YARD as it is now; none was read into it as long as it has no BIKES. */
    private static final class Yard {
        private int reach;
        private int looseTime;
        private int noteTime;
        private int bikes;
        private int holds;
        private int lifters;
        private final int[] weight = new int[BIKES];
        private final int[] gap = new int[BIKES];
        /** BIKES (bits) that lie on each BIKE, DOWN or not. */
        private final int[] above = new int[BIKES];
        /** BIKES (bits) that each BIKE is caught with by holds that are not LOOSE, DOWN or not. */
        private final int[] caught = new int[BIKES];
        private final int[] sort = new int[HOLDS];
        private final int[] upper = new int[HOLDS];
        private final int[] lower = new int[HOLDS];
        private final Lifter[] crew = new Lifter[LIFTERS];
        private int loose;
        private int down;
        private int seconds;
        private int falls;

        void clear() {
            bikes = 0;
            holds = 0;
            lifters = 0;
            loose = 0;
            down = 0;
            seconds = 0;
            falls = 0;
        }

        void addBike(int ofWeight, int toNext) {
            weight[bikes] = ofWeight;
            gap[bikes] = toNext;
            above[bikes] = 0;
            caught[bikes] = 0;
            down |= 1 << bikes;
            bikes++;
        }

        void addHold(int ofSort, int a, int b) {
            sort[holds] = ofSort;
            upper[holds] = a;
            lower[holds] = b;
            if (ofSort == CAUGHT) {
                caught[a] |= 1 << b;
                caught[b] |= 1 << a;
            } else {
                above[b] |= 1 << a;
            }
            holds++;
        }

        void addLifter(Lifter one) {
            crew[lifters] = one;
            lifters++;
        }

        void become(Yard other) {
            reach = other.reach;
            looseTime = other.looseTime;
            noteTime = other.noteTime;
            bikes = other.bikes;
            holds = other.holds;
            lifters = other.lifters;
            System.arraycopy(other.weight, 0, weight, 0, BIKES);
            System.arraycopy(other.gap, 0, gap, 0, BIKES);
            System.arraycopy(other.above, 0, above, 0, BIKES);
            System.arraycopy(other.caught, 0, caught, 0, BIKES);
            System.arraycopy(other.sort, 0, sort, 0, HOLDS);
            System.arraycopy(other.upper, 0, upper, 0, HOLDS);
            System.arraycopy(other.lower, 0, lower, 0, HOLDS);
            for (int i = 0; i < LIFTERS; i++) {
                crew[i] = other.crew[i];
            }
            loose = other.loose;
            down = other.down;
            seconds = other.seconds;
            falls = other.falls;
        }

        boolean isRead() {
            return bikes > 0;
        }

        boolean hasBike(int bike) {
            return within(bike, 0, bikes - 1);
        }

        boolean hasHold(int hold) {
            return within(hold, 0, holds - 1);
        }

        Lifter lifterAt(int i) {
            return within(i, 0, lifters - 1) ? crew[i] : null;
        }

        /** Whether two BIKES, either way, have a hold of a sort; only while a text is read. */
        boolean isHeld(int ofSort, int a, int b) {
            int[] partners = ofSort == CAUGHT ? caught : above;
            return has(partners[a], b) || has(partners[b], a);
        }

        boolean isLoose(int hold) {
            return has(loose, hold);
        }

        /** A caught hold that holds becomes LOOSE, a LOOSE one holds: no two share their BIKES. */
        void turn(int hold) {
            loose ^= 1 << hold;
            caught[upper[hold]] ^= 1 << lower[hold];
            caught[lower[hold]] ^= 1 << upper[hold];
        }

        boolean isFree(int bike, int ofDown) {
            return has(ofDown, bike) && (above[bike] & ofDown) == 0;
        }

        int freeOnes() {
            int free = 0;
            for (int bike = 0; bike < bikes; bike++) {
                free |= isFree(bike, down) ? 1 << bike : 0;
            }
            return free;
        }

        int catches(int bike, int ofDown) {
            return has(ofDown, bike) ? Integer.bitCount(caught[bike] & ofDown) : 0;
        }

        boolean canRaise(Lifter one, int bike) {
            return isFree(bike, down) && one.manages(weight[bike], catches(bike, down));
        }

        /** The BIKE comes UP, if it can: the SECONDS it takes; NONE. */
        int raise(Lifter one, int bike) {
            if (!canRaise(one, bike)) {
                return NONE;
            }
            int met = catches(bike, down);
            int took = one.secondsFor(weight[bike], met, this);
            seconds += took;
            falls += one.fallsFor(met);
            down &= ~(1 << bike);
            return took;
        }

        /** The BIKE is DOWN again, if it is UP. */
        boolean fallsAnew(int bike) {
            if (has(down, bike)) {
                return false;
            }
            down |= 1 << bike;
            falls++;
            return true;
        }

        /** BIKES (bits) that stay DOWN, whatever LIFTERS (bits) lift: a lift only ever helps others. */
        int leftBy(int set) {
            int left = down;
            for (int round = 0; round < bikes; round++) {
                for (int bike = 0; bike < bikes; bike++) {
                    if (isFree(bike, left) && someManages(set, bike, catches(bike, left))) {
                        left &= ~(1 << bike);
                    }
                }
            }
            return left;
        }

        private boolean someManages(int set, int bike, int met) {
            for (int i = 0; i < lifters; i++) {
                Lifter one = crew[i];
                if (has(set, i) && one != null && one.manages(weight[bike], met)) {
                    return true;
                }
            }
            return false;
        }

        /** By taking off all FREE ones at once, again and again: what lies in a ring is never FREE. */
        int layerOf(int bike) {
            int left = down;
            for (int depth = 0; depth < bikes && has(left, bike); depth++) {
                if (isFree(bike, left)) {
                    return depth;
                }
                left = withoutFree(left);
            }
            return NONE;
        }

        private int withoutFree(int left) {
            int rest = left;
            for (int bike = 0; bike < bikes; bike++) {
                rest &= isFree(bike, left) ? ~(1 << bike) : -1;
            }
            return rest;
        }

        /** BIKES (bits) that go down, when one is leant over to the right (1) or the left (0). */
        int goDown(int bike, int way) {
            int gone = 1 << bike;
            if (way == 1) {
                for (int next = bike + 1; next < bikes && gap[next - 1] <= reach; next++) {
                    gone |= 1 << next;
                }
            } else {
                for (int next = bike - 1; next >= 0 && gap[next] <= reach; next--) {
                    gone |= 1 << next;
                }
            }
            return gone;
        }

        /** The most BIKES that go down by one, if GAPS (bits) are made more than REACH. */
        int longestRun(int widened) {
            int longest = 1;
            int run = 1;
            for (int bike = 1; bike < bikes; bike++) {
                boolean reached = gap[bike - 1] <= reach && !has(widened, bike - 1);
                run = reached ? run + 1 : 1;
                longest = Math.max(longest, run);
            }
            return longest;
        }
    }

    /** The ACTS that can be undone, the latest last. */
    private static final class Acts {
        private final int[] sort = new int[ACTS];
        private final int[] thing = new int[ACTS];
        private final int[] gapBefore = new int[ACTS];
        private final int[] seconds = new int[ACTS];
        private final int[] falls = new int[ACTS];
        private int kept;

        void forget() {
            kept = 0;
        }

        void keep(int ofSort, int ofThing, int tookSeconds, int hadFalls) {
            if (kept >= ACTS) {
                forgetOldest();
            }
            sort[kept] = ofSort;
            thing[kept] = ofThing;
            seconds[kept] = tookSeconds;
            falls[kept] = hadFalls;
            kept++;
        }

        void keepGap(int bike, int before) {
            keep(SPACED, bike, 0, 0);
            gapBefore[kept - 1] = before;
        }

        private void forgetOldest() {
            kept = ACTS - 1;
            System.arraycopy(sort, 1, sort, 0, kept);
            System.arraycopy(thing, 1, thing, 0, kept);
            System.arraycopy(gapBefore, 1, gapBefore, 0, kept);
            System.arraycopy(seconds, 1, seconds, 0, kept);
            System.arraycopy(falls, 1, falls, 0, kept);
        }

        /** The latest ACT is undone, if there is one. */
        boolean takesBack(Yard y) {
            if (kept <= 0) {
                return false;
            }
            kept--;
            y.seconds -= seconds[kept];
            y.falls -= falls[kept];
            switch (sort[kept]) {
                case LIFTED:
                case FELL_ANEW:
                    y.down ^= 1 << thing[kept];
                    break;
                case LOOSENED:
                    y.turn(thing[kept]);
                    break;
                default:
                    y.gap[thing[kept]] = gapBefore[kept];
                    break;
            }
            return true;
        }
    }

    /** The numbers of the BODIES of one ask, as they began. */
    private static final class Trace {
        private final int[] numbers = new int[TRACED];
        private int length;
        private int bikesDown;

        void begin(int down) {
            length = 0;
            bikesDown = down;
        }

        void enter(int body) {
            if (length < TRACED) {
                numbers[length] = body;
                length++;
            }
        }
    }

    /** One who lifts: by its KIND, what it manages, how long it takes, what it answers to asks. */
    private abstract static class Lifter {
        final int number;
        int force;

        Lifter(int number, int force) {
            this.number = number;
            this.force = force;
        }

        abstract int kindNumber();

        abstract int secondsFor(int weight, int catches, Yard law);

        boolean manages(int weight, int catches) {
            return weight <= force;
        }

        int fallsFor(int catches) {
            return 0;
        }

        int size(Trace t) {
            t.enter(10);
            return force;
        }

        int mark(Trace t) {
            t.enter(20);
            return number;
        }
    }

    private static class Top extends Lifter {
        Top(int number, int force) {
            super(number, force);
        }

        int kindNumber() {
            return 1;
        }

        int secondsFor(int weight, int catches, Yard law) {
            return weight + 3 * catches;
        }

        int fallsFor(int catches) {
            return catches;
        }

        int size(Trace t) {
            t.enter(11);
            return super.size(t) + mark(t);
        }

        int mark(Trace t) {
            t.enter(21);
            return super.mark(t) + t.bikesDown;
        }
    }

    private static final class Freeing extends Top {
        Freeing(int number, int force) {
            super(number, force);
        }

        int kindNumber() {
            return 2;
        }

        int secondsFor(int weight, int catches, Yard law) {
            return weight + law.looseTime * catches;
        }

        int fallsFor(int catches) {
            return 0;
        }

        int size(Trace t) {
            t.enter(12);
            return 0 - super.size(t);
        }

        int mark(Trace t) {
            t.enter(24);
            return 2 * super.mark(t);
        }
    }

    private static final class Pair extends Top {
        Pair(int number, int force) {
            super(number, force);
        }

        int kindNumber() {
            return 3;
        }

        boolean manages(int weight, int catches) {
            return weight <= 2 * force;
        }

        int secondsFor(int weight, int catches, Yard law) {
            return super.secondsFor(weight, catches, law) / 2;
        }

        int mark(Trace t) {
            t.enter(22);
            return super.mark(t) - 1000;
        }
    }

    private static class Going extends Lifter {
        Going(int number, int force) {
            super(number, force);
        }

        int kindNumber() {
            return 4;
        }

        boolean manages(int weight, int catches) {
            return catches == 0 && weight <= force;
        }

        int secondsFor(int weight, int catches, Yard law) {
            return weight / 2;
        }

        int size(Trace t) {
            t.enter(13);
            return super.size(t) - 100;
        }

        int mark(Trace t) {
            t.enter(23);
            return super.mark(t) - size(t);
        }
    }

    private static final class Note extends Going {
        Note(int number, int force) {
            super(number, force);
        }

        int kindNumber() {
            return 5;
        }

        int secondsFor(int weight, int catches, Yard law) {
            return super.secondsFor(weight, catches, law) + law.noteTime;
        }

        int size(Trace t) {
            t.enter(14);
            return 2 * super.size(t);
        }
    }
}
