/**
 * A log's cross-cut of squares with its loads, and how it lies in the water in each of its four turns.
 *
 * All rows are made once, in the constructor, and used again: a run's calls share one small room.
 */
public final class LogsAfloat {
    public static final int BAD = -1, FULL = -2, FINDING = -3, STATE = -4, SINKS = -5, NONE = -9;

    private static final int NOTHING = 1, BEYOND = 2, UNLIKE = 3, NOUGHT = 4, SIZE = 5;

    private static final int DONE = 1;

    private static final int MOST_SIDE = 12, MOST_PLACES = MOST_SIDE * MOST_SIDE, MOST_SQUARE_WEIGHT = 20;
    private static final int MOST_DENSITY = 20, FIRST_DENSITY = 10;
    private static final int SHEETS = 6, MOST_BYTES = 12, MISSING = -1, BYTE_SHIFT = 1000;
    private static final int MOST_LOADS = 10, MOST_HALVES = 24, MOST_LOAD_WEIGHT = 200, MOST_ROPE = 20;
    private static final int PLAIN = 0, HANGING = 1, TIED = 2;
    private static final int TURNS = 4, MOST_TRIM_WEIGHT = 2000;
    private static final int MOST_HEIGHT_UPPER = 24, MOST_HEIGHT_LOWER = 12;

    private final Cut cut;
    private final Lie lie;
    private final Load[] loads;
    private final byte[][] sheets;
    private final int[] sizes;
    private final int[] found;
    private int density;
    private int ever;
    private int latest;
    private long upper;
    private long lower;

    public LogsAfloat() {
        cut = new Cut();
        lie = new Lie();
        loads = new Load[MOST_LOADS];
        for (int i = 0; i < MOST_LOADS; i++) {
            loads[i] = new Load();
        }
        sheets = new byte[SHEETS][MOST_BYTES];
        sizes = new int[SHEETS];
        for (int s = 0; s < SHEETS; s++) {
            sizes[s] = MISSING;
        }
        found = new int[SIZE + 1];
        density = FIRST_DENSITY;
        lower = 1;
    }

    // ---- 1 the log, loads

    public int log(int w, int h) {
        if (!within(w, 1, MOST_SIDE) || !within(h, 1, MOST_SIDE)) {
            return BAD;
        }
        cut.begin(w, h);
        ever = 0;
        return w * h;
    }

    public int square(int x, int y, int weight) {
        if (!cut.has(x, y) || (weight != NONE && !within(weight, 0, MOST_SQUARE_WEIGHT))) {
            return BAD;
        }
        int had = cut.weightOf(x, y);
        cut.put(x, y, weight);
        return had;
    }

    public int at(int x, int y) {
        return cut.has(x, y) ? cut.weightOf(x, y) : BAD;
    }

    public int water(int d) {
        if (!within(d, 1, MOST_DENSITY)) {
            return BAD;
        }
        int had = density;
        density = d;
        return had;
    }

    public int sheet(int s, int n) {
        if (!isSheet(s) || n > MOST_BYTES) {
            return BAD;
        }
        if (n < 0) {
            return find(SIZE);
        }
        for (int i = 0; i < n; i++) {
            sheets[s][i] = 0;
        }
        sizes[s] = n;
        return n;
    }

    public int lay(int s, int i, int v) {
        if (!isSheet(s)) {
            return BAD;
        }
        if (sizes[s] == MISSING) {
            return find(NOTHING);
        }
        if (i < 0 || i >= sizes[s]) {
            return find(BEYOND);
        }
        int was = sheets[s][i];
        sheets[s][i] = (byte) v;
        return was + BYTE_SHIFT;
    }

    public int tear(int s) {
        if (!isSheet(s)) {
            return BAD;
        }
        if (sizes[s] == MISSING) {
            return find(NOTHING);
        }
        sizes[s] = MISSING;
        return DONE;
    }

    public int copy(int s, int i, int to, int j, int n) {
        if (!isSheet(s) || !isSheet(to)) {
            return BAD;
        }
        if (sizes[s] == MISSING || sizes[to] == MISSING) {
            return find(NOTHING);
        }
        if (!reaches(s, i, n) || !reaches(to, j, n)) {
            return find(BEYOND);
        }
        // arraycopy answers as if the bytes were taken ahead, where a sheet is copied onto itself, too
        System.arraycopy(sheets[s], i, sheets[to], j, n);
        return DONE;
    }

    public int fill(int y, int s) {
        if (!cut.has(0, y) || !isSheet(s)) {
            return BAD;
        }
        if (sizes[s] == MISSING) {
            return find(NOTHING);
        }
        if (sizes[s] < cut.width) {
            return find(BEYOND);
        }
        int squares = 0;
        for (int x = 0; x < cut.width; x++) {
            int told = sheets[s][x];
            cut.put(x, y, told < 0 ? NONE : Math.min(told, MOST_SQUARE_WEIGHT));
            squares += told < 0 ? 0 : 1;
        }
        return squares;
    }

    public int load(int kind, int a, int b, int weight) {
        if (!within(kind, PLAIN, TIED) || !isPoint(a, b) || !within(weight, 0, MOST_LOAD_WEIGHT)) {
            return BAD;
        }
        if (ever >= MOST_LOADS) {
            return FULL;
        }
        loads[ever].begin(kind, a, b, weight);
        ever++;
        return ever - 1;
    }

    public int move(int load, int a, int b) {
        if (!isLoad(load) || !isPoint(a, b)) {
            return BAD;
        }
        Load moved = loads[load];
        if (!moved.there) {
            return find(NOTHING);
        }
        if (moved.kind == TIED) {
            return find(UNLIKE);
        }
        moved.a = a;
        moved.b = b;
        return DONE;
    }

    public int rope(int load, int n) {
        if (!isLoad(load) || !within(n, 0, MOST_ROPE)) {
            return BAD;
        }
        Load hung = loads[load];
        if (!hung.there) {
            return find(NOTHING);
        }
        if (hung.kind != HANGING) {
            return find(UNLIKE);
        }
        int was = hung.rope;
        hung.rope = n;
        return was;
    }

    public int drop(int load) {
        if (!isLoad(load)) {
            return BAD;
        }
        if (!loads[load].there) {
            return find(NOTHING);
        }
        loads[load].there = false;
        return DONE;
    }

    public int told(int load, int what) {
        if (!isLoad(load) || !within(what, 0, Load.FACTS - 1)) {
            return BAD;
        }
        return loads[load].there ? loads[load].fact(what) : find(NOTHING);
    }

    public int is(int load, int kind) {
        if (!isLoad(load) || !within(kind, PLAIN, TIED)) {
            return BAD;
        }
        if (!loads[load].there) {
            return find(NOTHING);
        }
        return kind == PLAIN || kind == loads[load].kind ? 1 : 0;
    }

    public int all() {
        return wholeWeight();
    }

    public int mean() {
        int squares = cut.squares();
        return squares == 0 ? find(NOUGHT) : cut.weight() / squares;
    }

    // ---- 2 afloat

    public int floats(int turn) {
        return settle(turn);
    }

    public int draft(int turn) {
        int settled = settle(turn);
        return settled == DONE ? tell(lie.row * lie.parts + lie.part, lie.parts) : settled;
    }

    public int above(int turn) {
        int settled = settle(turn);
        return settled == DONE ? tell((lie.height - lie.row) * lie.parts - lie.part, lie.parts) : settled;
    }

    public int middle(int turn, int what) {
        if (!within(what, 0, 3)) {
            return BAD;
        }
        int settled = settle(turn);
        if (settled != DONE) {
            return settled;
        }
        long whole = wholeWeight();
        switch (what) {
            case 0:
                return tell(lie.momentAcross() * density, 2 * lie.parts * whole);
            case 1:
                return tell(lie.momentUp() * density, 2 * lie.parts * lie.parts * whole);
            case 2:
                return tell(weightAcross(turn), 2 * whole);
            default:
                return tell(weightUp(turn), 2 * whole);
        }
    }

    public int place(int turn, int x, int y) {
        if (!isTurn(turn) || !within(x, 0, cut.across(turn) - 1) || !within(y, 0, cut.up(turn) - 1)) {
            return BAD;
        }
        int settled = settle(turn);
        return settled == DONE ? lie.stateOf(x, y) : settled;
    }

    public int leans(int turn) {
        int settled = settle(turn);
        return settled == DONE ? leaning(turn) : settled;
    }

    public int breadth(int turn) {
        int settled = settle(turn);
        if (settled != DONE) {
            return settled;
        }
        lie.measureLine();
        return tell(lie.breadthUpper, lie.breadthLower);
    }

    public int holds(int turn) {
        int settled = settle(turn);
        return settled == DONE ? holding(turn) : settled;
    }

    public int rests() {
        int bits = 0;
        for (int turn = 0; turn < TURNS; turn++) {
            int settled = settle(turn);
            if (settled == STATE) {
                return STATE;
            }
            if (settled == DONE && holding(turn) == 2) {
                bits |= 1 << turn;
            }
        }
        return bits;
    }

    public int carries(int turn) {
        if (!isTurn(turn)) {
            return BAD;
        }
        if (cut.squares() == 0) {
            return STATE;
        }
        lie.turnTo(cut, turn);
        int more = lie.mostRoom() * density - wholeWeight();
        return more < 0 ? SINKS : more;
    }

    public int trim(int turn, int k) {
        if (!isTurn(turn) || !within(k, 1, MOST_TRIM_WEIGHT)) {
            return BAD;
        }
        if (cut.squares() == 0) {
            return STATE;
        }
        lie.turnTo(cut, turn);
        if (!lie.bears(wholeWeight() + k, density)) {
            return SINKS;
        }
        // level is: what the water bears at its middle is what all weights, and k at x, weigh at theirs
        return tell(lie.momentAcross() * density - weightAcross(turn) * lie.parts, 2 * lie.parts * k);
    }

    public int room(int turn, int u, int l) {
        if (!isTurn(turn) || !within(u, 0, MOST_HEIGHT_UPPER) || !within(l, 1, MOST_HEIGHT_LOWER)
                || u > cut.up(turn) * l) {
            return BAD;
        }
        if (u == 0) {
            return tell(0, 1);
        }
        int row = (u - 1) / l;
        lie.turnTo(cut, turn);
        lie.riseTo(row);
        return tell(lie.firmBelow * l + lie.firmAcross * (u - row * l), l);
    }

    // ---- 3 what is told

    public long upper() {
        return upper;
    }

    public long lower() {
        return lower;
    }

    public int count(int what) {
        switch (what) {
            case 0:
                return cut.width;
            case 1:
                return cut.height;
            case 2:
                return cut.squares();
            case 3:
                return ever;
            case 4:
                return loadsThere();
            default:
                return BAD;
        }
    }

    public int finding() {
        return latest;
    }

    public int findings(int f) {
        return within(f, NOTHING, SIZE) ? found[f] : BAD;
    }

    public long digest() {
        return digestSheets(digestLoads(31 * digestPlaces(17) + density));
    }

    private long digestPlaces(long begun) {
        long h = 31 * begun + cut.width;
        h = 31 * h + cut.height;
        for (int y = 0; y < cut.height; y++) {
            for (int x = 0; x < cut.width; x++) {
                h = 31 * h + cut.weightOf(x, y);
            }
        }
        return h;
    }

    private long digestLoads(long begun) {
        long h = begun;
        for (int i = 0; i < ever; i++) {
            if (!loads[i].there) {
                h = 31 * h + MISSING;
                continue;
            }
            for (int what = 0; what < Load.FACTS; what++) {
                h = 31 * h + loads[i].fact(what);
            }
        }
        return h;
    }

    private long digestSheets(long begun) {
        long h = begun;
        for (int s = 0; s < SHEETS; s++) {
            h = 31 * h + sizes[s];
            for (int i = 0; i < sizes[s]; i++) {
                h = 31 * h + sheets[s][i];
            }
        }
        return h;
    }

    private static boolean within(int n, int least, int most) {
        return n >= least && n <= most;
    }

    private static boolean isTurn(int turn) {
        return within(turn, 0, TURNS - 1);
    }

    private static boolean isSheet(int s) {
        return within(s, 0, SHEETS - 1);
    }

    private static boolean isPoint(int a, int b) {
        return within(a, 0, MOST_HALVES) && within(b, 0, MOST_HALVES);
    }

    /** A dropped load keeps its number: it is one, though it is missing. */
    private boolean isLoad(int load) {
        return within(load, 0, ever - 1);
    }

    /** Told without i + n, which may wrap around. */
    private boolean reaches(int s, int i, int n) {
        return i >= 0 && n >= 0 && i <= sizes[s] && n <= sizes[s] - i;
    }

    private int find(int f) {
        latest = f;
        found[f]++;
        return FINDING;
    }

    private int tell(long up, long low) {
        long common = commonDivisor(Math.abs(up), low);
        if (common > 0) {
            upper = up / common;
            lower = low / common;
        }
        return DONE;
    }

    private static long commonDivisor(long one, long other) {
        long a = one;
        long b = other;
        // Euclid's way takes fewer than 100 steps for any two longs
        for (int step = 0; step < 100 && b != 0; step++) {
            long rest = a % b;
            a = b;
            b = rest;
        }
        return a;
    }

    private int loadsThere() {
        int there = 0;
        for (int i = 0; i < ever; i++) {
            there += loads[i].there ? 1 : 0;
        }
        return there;
    }

    private int wholeWeight() {
        int whole = cut.weight();
        for (int i = 0; i < ever; i++) {
            whole += loads[i].there ? loads[i].weight : 0;
        }
        return whole;
    }

    /** Lays the log into the water: DONE, or what a call that needs it afloat is refused with. */
    private int settle(int turn) {
        if (!isTurn(turn)) {
            return BAD;
        }
        int whole = wholeWeight();
        if (whole == 0 || cut.squares() == 0) {
            return STATE;
        }
        lie.turnTo(cut, turn);
        return lie.bears(whole, density) ? DONE : SINKS;
    }

    /** Twice ALL times the x of G: in halves, so that it is whole. */
    private long weightAcross(int turn) {
        long sum = cut.weightAcross(turn);
        for (int i = 0; i < ever; i++) {
            Load l = loads[i];
            if (l.there) {
                sum += l.weight * turnedAcross(turn, l.a, l.b, 2 * cut.width, 2 * cut.height);
            }
        }
        return sum;
    }

    /** Twice ALL times the y of G; a rope points up in whatever turn, so it is added behind the turning. */
    private long weightUp(int turn) {
        long sum = cut.weightUp(turn);
        for (int i = 0; i < ever; i++) {
            Load l = loads[i];
            if (l.there) {
                sum += l.weight * (turnedUp(turn, l.a, l.b, 2 * cut.width, 2 * cut.height) + l.rope);
            }
        }
        return sum;
    }

    /** Compares B and G by their moments: both are of the same weight, so no division is needed. */
    private int leaning(int turn) {
        long borne = lie.momentAcross() * density;
        long weighs = weightAcross(turn) * lie.parts;
        if (weighs == borne) {
            return 0;
        }
        return weighs < borne ? 1 : 2;
    }

    private int holding(int turn) {
        if (leaning(turn) != 0) {
            return 0;
        }
        // the moment comes first: measuring the line may let the water rise by a row
        long squared = lie.parts * lie.parts;
        long overturns = weightUp(turn) * squared - lie.momentUp() * density;
        lie.measureLine();
        long rights = lie.breadthUpper * 2 * density * squared;
        int compared = Long.compare(rights, overturns * lie.breadthLower);
        return compared > 0 ? 2 : compared == 0 ? 1 : 0;
    }

    /** The x of a place (spans W - 1, H - 1) or a point in halves (spans 2 W, 2 H) in a turn. */
    private static int turnedAcross(int turn, int x, int y, int spanAcross, int spanUp) {
        switch (turn) {
            case 1:
                return spanUp - y;
            case 2:
                return spanAcross - x;
            case 3:
                return y;
            default:
                return x;
        }
    }

    /** The y of a place or a point in a turn, with spans as above. */
    private static int turnedUp(int turn, int x, int y, int spanAcross, int spanUp) {
        switch (turn) {
            case 1:
                return x;
            case 2:
                return spanUp - y;
            case 3:
                return spanAcross - x;
            default:
                return y;
        }
    }

    /** A load; those of an object are made once and begun anew. */
    private static final class Load {
        static final int FACTS = 5;

        boolean there;
        int kind;
        int a;
        int b;
        int weight;
        int rope;

        void begin(int newKind, int newA, int newB, int newWeight) {
            there = true;
            kind = newKind;
            a = newA;
            b = newB;
            weight = newWeight;
            rope = 0;
        }

        int fact(int what) {
            switch (what) {
                case 0:
                    return kind;
                case 1:
                    return a;
                case 2:
                    return b;
                case 3:
                    return weight;
                default:
                    return kind == HANGING ? rope : NONE;
            }
        }
    }

    /** The cross-cut with its squares, as it lies in turn 0. */
    private static final class Cut {
        final int[] weights = new int[MOST_PLACES];
        int width;
        int height;

        Cut() {
            begin(1, 1);
        }

        void begin(int newWidth, int newHeight) {
            width = newWidth;
            height = newHeight;
            for (int i = 0; i < MOST_PLACES; i++) {
                weights[i] = NONE;
            }
        }

        boolean has(int x, int y) {
            return within(x, 0, width - 1) && within(y, 0, height - 1);
        }

        /** Of a place that it has. */
        int weightOf(int x, int y) {
            return weights[y * MOST_SIDE + x];
        }

        void put(int x, int y, int weight) {
            weights[y * MOST_SIDE + x] = weight;
        }

        int across(int turn) {
            return turn % 2 == 0 ? width : height;
        }

        int up(int turn) {
            return turn % 2 == 0 ? height : width;
        }

        int squares() {
            int squares = 0;
            for (int i = 0; i < MOST_PLACES; i++) {
                squares += weights[i] == NONE ? 0 : 1;
            }
            return squares;
        }

        int weight() {
            int sum = 0;
            for (int i = 0; i < MOST_PLACES; i++) {
                sum += weights[i] == NONE ? 0 : weights[i];
            }
            return sum;
        }

        /** The sum of each square's weight times the x of its middle in halves. */
        long weightAcross(int turn) {
            long sum = 0;
            for (int y = 0; y < height; y++) {
                for (int x = 0; x < width; x++) {
                    int weight = Math.max(weightOf(x, y), 0);
                    sum += weight * (2 * turnedAcross(turn, x, y, width - 1, height - 1) + 1);
                }
            }
            return sum;
        }

        /** The sum of each square's weight times the y of its middle in halves. */
        long weightUp(int turn) {
            long sum = 0;
            for (int y = 0; y < height; y++) {
                for (int x = 0; x < width; x++) {
                    int weight = Math.max(weightOf(x, y), 0);
                    sum += weight * (2 * turnedUp(turn, x, y, width - 1, height - 1) + 1);
                }
            }
            return sum;
        }
    }

    /**
     * The cross-cut as it lies in one turn, with the water in its rows 0 to row.
     * A row of places is a number whose bit x is the place x.
     */
    private static final class Lie {
        final int[] open = new int[MOST_SIDE];
        final int[] wet = new int[MOST_SIDE];
        int width;
        int height;
        int row;
        int firmBelow;
        int firmAcross;
        /** The draft is row + part / parts. */
        long part;
        long parts;
        long breadthUpper;
        long breadthLower;

        /** Turns the log, with no water yet. */
        void turnTo(Cut cut, int turn) {
            width = cut.across(turn);
            height = cut.up(turn);
            row = -1;
            for (int y = 0; y < MOST_SIDE; y++) {
                open[y] = 0;
                wet[y] = 0;
            }
            for (int y = 0; y < cut.height; y++) {
                for (int x = 0; x < cut.width; x++) {
                    if (cut.weightOf(x, y) == NONE) {
                        int bit = 1 << turnedAcross(turn, x, y, cut.width - 1, cut.height - 1);
                        open[turnedUp(turn, x, y, cut.width - 1, cut.height - 1)] |= bit;
                    }
                }
            }
        }

        /** Water never leaves a place as it rises, so each row goes on from the one below. */
        void riseTo(int to) {
            while (row < to && row + 1 < height) {
                row++;
                wet[row] = open[row] & waysInto(row);
                spread();
            }
            countFirm();
        }

        int waysInto(int y) {
            int wholeRow = (1 << width) - 1;
            int ends = 1 | (1 << (width - 1));
            return y == 0 ? wholeRow : ends;
        }

        /** Each pass but the last wets at least one place more. */
        void spread() {
            boolean more = true;
            for (int pass = 0; more && pass <= MOST_PLACES; pass++) {
                more = false;
                for (int y = 0; y <= row; y++) {
                    int reached = wet[y] | (wet[y] << 1) | (wet[y] >> 1);
                    reached |= y > 0 ? wet[y - 1] : 0;
                    reached |= y < row ? wet[y + 1] : 0;
                    reached &= open[y];
                    more |= reached != wet[y];
                    wet[y] = reached;
                }
            }
        }

        int firm(int y) {
            return ((1 << width) - 1) & ~wet[y];
        }

        void countFirm() {
            firmBelow = 0;
            for (int y = 0; y < row; y++) {
                firmBelow += Integer.bitCount(firm(y));
            }
            firmAcross = row < 0 ? 0 : Integer.bitCount(firm(row));
        }

        /**
         * Lets the water rise till it bears a weight above 0, if it ever does.
         * Room falls only at a row's beginning and grows evenly within it, so the first row
         * whose end has room enough has the least height, and its beginning has too little.
         */
        boolean bears(int weight, int density) {
            for (int y = 0; y < height; y++) {
                riseTo(y);
                if (weight <= (firmBelow + firmAcross) * density) {
                    part = weight - firmBelow * density;
                    parts = firmAcross * density;
                    return true;
                }
            }
            return false;
        }

        int mostRoom() {
            int most = 0;
            for (int y = 0; y < height; y++) {
                riseTo(y);
                most = Math.max(most, firmBelow + firmAcross);
            }
            return most;
        }

        /** With the water up to row: 0 above it, 1 wet, 2 a square, 3 dry. */
        int stateOf(int x, int y) {
            if (y > row) {
                return 0;
            }
            if (((wet[y] >> x) & 1) == 1) {
                return 1;
            }
            return ((open[y] >> x) & 1) == 0 ? 2 : 3;
        }

        /** The sum of 2 x + 1 over a row of places. */
        int halves(int places) {
            int sum = 0;
            for (int x = 0; x < width; x++) {
                sum += ((places >> x) & 1) * (2 * x + 1);
            }
            return sum;
        }

        /** 2 parts times the room times the x of B. */
        long momentAcross() {
            long below = 0;
            for (int y = 0; y < row; y++) {
                below += halves(firm(y));
            }
            long inRow = row < 0 ? 0 : halves(firm(row));
            return below * parts + inRow * part;
        }

        /** 2 parts parts times the room times the y of B. */
        long momentUp() {
            long below = 0;
            for (int y = 0; y < row; y++) {
                below += Integer.bitCount(firm(y)) * (2 * y + 1);
            }
            return below * parts * parts + firmAcross * part * (2 * row * parts + part);
        }

        /**
         * Measures the breadth of the line. At a row's very end the row above counts as it would be with
         * a little more water: that lets the water rise, so what needs the draft's row is asked before.
         */
        void measureLine() {
            measureRow();
            if (part != parts || row + 1 >= height) {
                return;
            }
            long endUpper = breadthUpper;
            long endLower = breadthLower;
            riseTo(row + 1);
            measureRow();
            if (endUpper * breadthLower < breadthUpper * endLower) {
                breadthUpper = endUpper;
                breadthLower = endLower;
            }
        }

        void measureRow() {
            int places = row < 0 ? 0 : firm(row);
            long number = Integer.bitCount(places);
            long thirds = 0;
            for (int x = 0; x < width; x++) {
                thirds += ((places >> x) & 1) * (3 * x * x + 3 * x + 1);
            }
            long halves = halves(places);
            breadthUpper = 4 * number * thirds - 3 * halves * halves;
            breadthLower = number == 0 ? 1 : 12 * number;
        }
    }
}
