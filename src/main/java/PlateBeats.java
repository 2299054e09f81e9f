/**
 * A planner for the halftone screens of up to four printing plates.
 *
 * With the cell vector of a plate written as the complex number z = p + qi, its frequencies are u = 1 / conj(z) and
 * v = i / conj(z). So the square of any combination is a whole number, here called its norm, over the product of the
 * areas of its plates: all squares of one pair or triple have the same denominator before they are reduced.
 */
public final class PlateBeats {
    public static final int INVALID_ARGUMENT = -1;
    public static final int ILLEGAL_STATE = -2;
    public static final int CAPACITY_EXCEEDED = -3;
    public static final int NONE = -4;

    private static final int MAX_PLATES = 4;
    private static final int MAX_SIDE = 20;
    private static final int MAX_AREA = 800;
    private static final int MAX_ORDER = 2;
    private static final int MAX_FINE = 1000;
    private static final int MAX_LONG = 10000;
    private static final int MAX_HISTORY = 5;
    private static final int SLOT_COUNT = 2;

    private static final int KIND_LOCKED = 0;
    private static final int KIND_FINE = 1;
    private static final int KIND_LONG = 2;
    private static final int KIND_BAND = 3;

    /** The pairs, then the triples, as bits of their plates, in the order that decides between equal worst bands. */
    private static final int[] GROUPS = {3, 5, 9, 6, 10, 12, 7, 11, 13, 14};
    private static final int TURNS = 4;
    /** A quarter of a pair's combinations at order 2: 6 times 24. */
    private static final int MAX_NORMS = 144;
    /** Euclid's algorithm on numbers below 2 to the 31 ends well within this. */
    private static final int GCD_STEPS = 100;
    /** The quotient of a denominator and a norm is at most 800 * 800 * 800, its root less than twice this bit. */
    private static final int HIGHEST_ROOT_BIT = 1 << 14;

    private final State present = new State();
    private final State trial = new State();
    private final State[] history = new State[MAX_HISTORY];
    private final State[] slots = new State[SLOT_COUNT];
    private final boolean[] slotFilled = new boolean[SLOT_COUNT];
    private final Group group = new Group();
    private int historyCount;

    public PlateBeats() {
        for (int k = 0; k < MAX_HISTORY; k++) {
            history[k] = new State();
        }
        for (int k = 0; k < SLOT_COUNT; k++) {
            slots[k] = new State();
        }
    }

    // ---- plates

    public int addPlate(int p, int q) {
        if (!isScreen(p, q)) {
            return INVALID_ARGUMENT;
        }
        if (present.count >= MAX_PLATES) {
            return CAPACITY_EXCEEDED;
        }
        record();
        present.append(p, q);
        return present.count - 1;
    }

    public int setScreen(int plate, int p, int q) {
        if (!present.has(plate) || !isScreen(p, q)) {
            return INVALID_ARGUMENT;
        }
        record();
        int areaBefore = present.areaOf(plate);
        present.put(plate, p, q);
        return areaBefore;
    }

    public int removePlate(int plate) {
        if (!present.has(plate)) {
            return INVALID_ARGUMENT;
        }
        record();
        present.drop(plate);
        return present.count;
    }

    public int plateCount() {
        return present.count;
    }

    public int cellP(int plate) {
        return present.has(plate) ? present.pOf(plate) : INVALID_ARGUMENT;
    }

    public int cellQ(int plate) {
        return present.has(plate) ? present.qOf(plate) : INVALID_ARGUMENT;
    }

    public int cellArea(int plate) {
        return present.has(plate) ? present.areaOf(plate) : INVALID_ARGUMENT;
    }

    public int tile(int plate) {
        return present.has(plate) ? (int) tileOf(plate) : INVALID_ARGUMENT;
    }

    public long commonTile() {
        long common = 1;
        for (int plate = 0; plate < present.count; plate++) {
            long tile = tileOf(plate);
            common = divided(common, gcd(common, tile)) * tile;
        }
        return common;
    }

    public int byAngle(int rank) {
        if (rank < 0) {
            return INVALID_ARGUMENT;
        }
        for (int plate = 0; plate < present.count; plate++) {
            if (platesBefore(plate) == rank) {
                return plate;
            }
        }
        return NONE;
    }

    private long tileOf(int plate) {
        return divided(present.areaOf(plate), gcd(present.pOf(plate), present.qOf(plate)));
    }

    private int platesBefore(int plate) {
        int before = 0;
        for (int other = 0; other < present.count; other++) {
            int left = present.qOf(other) * present.pOf(plate);
            int right = present.qOf(plate) * present.pOf(other);
            if (left < right || left == right && other < plate) {
                before++;
            }
        }
        return before;
    }

    private static boolean isScreen(int p, int q) {
        return p >= 1 && p <= MAX_SIDE && q >= 0 && q <= MAX_SIDE;
    }

    // ---- settings

    public int setOrder(int order) {
        if (order < 1 || order > MAX_ORDER) {
            return INVALID_ARGUMENT;
        }
        record();
        int before = present.order;
        present.order = order;
        return before;
    }

    public int setLimits(int fine, int longLimit) {
        if (fine < 1 || fine > MAX_FINE || longLimit <= fine || longLimit > MAX_LONG) {
            return INVALID_ARGUMENT;
        }
        record();
        int before = present.fineLimit;
        present.fineLimit = fine;
        present.longLimit = longLimit;
        return before;
    }

    public int longLimit() {
        return present.longLimit;
    }

    // ---- beats of two plates

    public long squareNumerator(int i, int j, int a, int b, int c, int d) {
        if (!isCombination(i, j, a, b, c, d)) {
            return INVALID_ARGUMENT;
        }
        group.startPair(present, i, j);
        return group.numerator(present.pairNorm(i, j, a, b, c, d));
    }

    public long squareDenominator(int i, int j, int a, int b, int c, int d) {
        if (!isCombination(i, j, a, b, c, d)) {
            return INVALID_ARGUMENT;
        }
        group.startPair(present, i, j);
        return group.denominator(present.pairNorm(i, j, a, b, c, d));
    }

    public int kind(int i, int j, int a, int b, int c, int d) {
        if (!isCombination(i, j, a, b, c, d)) {
            return INVALID_ARGUMENT;
        }
        group.startPair(present, i, j);
        return group.kindOf(present.pairNorm(i, j, a, b, c, d));
    }

    public int beatCount(int i, int j) {
        if (!present.hasPair(i, j)) {
            return INVALID_ARGUMENT;
        }
        group.fillPair(present, i, j);
        group.sort();
        return group.differentNorms();
    }

    public long beatNumerator(int i, int j, int rank) {
        int norm = normOfRank(i, j, rank);
        return norm < 0 ? norm : group.numerator(norm);
    }

    public long beatDenominator(int i, int j, int rank) {
        int norm = normOfRank(i, j, rank);
        return norm < 0 ? norm : group.denominator(norm);
    }

    public int beatFrequency(int i, int j, int rank) {
        int norm = normOfRank(i, j, rank);
        return norm < 0 ? norm : group.combinationsWith(norm);
    }

    public int beatPeriod(int i, int j, int rank) {
        int norm = normOfRank(i, j, rank);
        if (norm < 0) {
            return norm;
        }
        return norm == 0 ? NONE : group.period(norm);
    }

    public int locked(int i, int j) {
        if (!present.hasPair(i, j)) {
            return INVALID_ARGUMENT;
        }
        group.fillPair(present, i, j);
        return group.combinationsWith(0);
    }

    public int bands(int i, int j) {
        return present.hasPair(i, j) ? pairBands(i, j) : INVALID_ARGUMENT;
    }

    private boolean isCombination(int i, int j, int a, int b, int c, int d) {
        return present.hasPair(i, j) && present.isFactorPair(a, b) && present.isFactorPair(c, d);
    }

    /** The norm of the square with this rank; a negative answer is the error code of the rank methods. */
    private int normOfRank(int i, int j, int rank) {
        if (!present.hasPair(i, j) || rank < 0) {
            return INVALID_ARGUMENT;
        }
        group.fillPair(present, i, j);
        group.sort();
        return group.normAt(rank);
    }

    private int pairBands(int i, int j) {
        group.fillPair(present, i, j);
        return group.bandCount();
    }

    // ---- three plates, all plates

    public int tripleBands(int i, int j, int k) {
        if (!present.hasPair(i, j) || !present.hasPair(j, k)) {
            return INVALID_ARGUMENT;
        }
        group.fillTriple(present, i, j, k);
        return group.bandCount();
    }

    public int allBands() {
        return bandsOfGroups(present, 0);
    }

    public int worstPlates() {
        int worst = NONE;
        int longest = 0;
        for (int g = 0; g < GROUPS.length; g++) {
            int period = worstPeriodOf(GROUPS[g]);
            if (period > longest) {
                longest = period;
                worst = GROUPS[g];
            }
        }
        return worst;
    }

    public int worstPeriod() {
        int plates = worstPlates();
        return plates == NONE ? NONE : worstPeriodOf(plates);
    }

    public int worstPair() {
        int worst = NONE;
        int most = -1;
        for (int i = 0; i < present.count; i++) {
            for (int j = i + 1; j < present.count; j++) {
                int found = pairBands(i, j);
                if (found > most) {
                    most = found;
                    worst = 10 * i + j;
                }
            }
        }
        return worst;
    }

    /** The greatest period of the bands of a pair or triple; 0 if it has none, since the period of a band is at least 1. */
    private int worstPeriodOf(int plates) {
        if (!present.hasAll(plates)) {
            return 0;
        }
        group.fillPlates(present, plates);
        return group.worstPeriodFound();
    }

    /** The bands of all pairs and triples that have the wanted plates (bits, 0 for all) among theirs. */
    private int bandsOfGroups(State state, int wanted) {
        int sum = 0;
        for (int g = 0; g < GROUPS.length; g++) {
            int plates = GROUPS[g];
            if (state.hasAll(plates) && (plates & wanted) == wanted) {
                group.fillPlates(state, plates);
                sum += group.bandCount();
            }
        }
        return sum;
    }

    // ---- search

    public int bestScreen(int plate, int low, int high) {
        return present.has(plate) && isRange(low, high) ? search(plate, low, high) : INVALID_ARGUMENT;
    }

    public int bandsWithBest(int plate, int low, int high) {
        if (!present.has(plate) || !isRange(low, high)) {
            return INVALID_ARGUMENT;
        }
        int best = search(plate, low, high);
        if (best == NONE) {
            return NONE;
        }
        copy(present, trial);
        trial.put(plate, best / 100, best % 100);
        return bandsOfGroups(trial, 0);
    }

    private static boolean isRange(int low, int high) {
        return low >= 1 && high >= low && high <= MAX_AREA;
    }

    /** Only the bands with the plate are compared: its screen does not change the others. */
    private int search(int plate, int low, int high) {
        copy(present, trial);
        int best = NONE;
        int fewest = 0;
        int nearest = 0;
        for (int p = 1; p <= MAX_SIDE; p++) {
            for (int q = 0; q <= MAX_SIDE; q++) {
                int area = p * p + q * q;
                if (area < low || area > high) {
                    continue;
                }
                trial.put(plate, p, q);
                int found = bandsOfGroups(trial, 1 << plate);
                int distance = Math.abs(area - present.areaOf(plate));
                if (best == NONE || found < fewest || found == fewest && distance < nearest) {
                    best = 100 * p + q;
                    fewest = found;
                    nearest = distance;
                }
            }
        }
        return best;
    }

    // ---- history, slots

    public int save(int slot) {
        if (!isSlot(slot)) {
            return INVALID_ARGUMENT;
        }
        copy(present, slots[slot]);
        slotFilled[slot] = true;
        return present.count;
    }

    public int restore(int slot) {
        if (!isSlot(slot)) {
            return INVALID_ARGUMENT;
        }
        if (!slotFilled[slot]) {
            return ILLEGAL_STATE;
        }
        record();
        copy(slots[slot], present);
        return present.count;
    }

    public int historySize() {
        return historyCount;
    }

    public int undo() {
        if (historyCount <= 0 || historyCount > MAX_HISTORY) {
            return ILLEGAL_STATE;
        }
        historyCount--;
        copy(history[historyCount], present);
        return historyCount;
    }

    private static boolean isSlot(int slot) {
        return slot >= 0 && slot < SLOT_COUNT;
    }

    /** Every action calls this before it changes anything. */
    private void record() {
        if (historyCount >= MAX_HISTORY) {
            dropOldest();
        }
        if (historyCount >= 0 && historyCount < MAX_HISTORY) {
            copy(present, history[historyCount]);
            historyCount++;
        }
    }

    /** The dropped state's object goes to the end, to be written again. */
    private void dropOldest() {
        State oldest = history[0];
        for (int k = 1; k < MAX_HISTORY; k++) {
            history[k - 1] = history[k];
        }
        history[MAX_HISTORY - 1] = oldest;
        historyCount = MAX_HISTORY - 1;
    }

    private static void copy(State from, State to) {
        if (from == null || to == null) {
            return;
        }
        for (int k = 0; k < MAX_PLATES; k++) {
            to.p[k] = from.p[k];
            to.q[k] = from.q[k];
        }
        to.count = from.count;
        to.order = from.order;
        to.fineLimit = from.fineLimit;
        to.longLimit = from.longLimit;
    }

    // ---- numbers

    /** The real part of (a + bi) * conj(p + qi). */
    private static int realPart(int p, int q, int a, int b) {
        return a * p + b * q;
    }

    /** The imaginary part of (a + bi) * conj(p + qi). */
    private static int imaginaryPart(int p, int q, int a, int b) {
        return b * p - a * q;
    }

    private static long gcd(long first, long second) {
        long a = first;
        long b = second;
        for (int step = 0; step < GCD_STEPS && b != 0; step++) {
            long rest = a % b;
            a = b;
            b = rest;
        }
        return a;
    }

    private static long divided(long number, long divisor) {
        return divisor > 0 ? number / divisor : 0;
    }

    /** The greatest number whose square is at most this one. */
    private static int root(long square) {
        int root = 0;
        for (int bit = HIGHEST_ROOT_BIT; bit > 0; bit >>= 1) {
            long next = root + bit;
            if (next * next <= square) {
                root += bit;
            }
        }
        return root;
    }

    /** What the history and the slots keep: the plates and the settings. */
    private static final class State {
        private final int[] p = new int[MAX_PLATES];
        private final int[] q = new int[MAX_PLATES];
        private int count = 0;
        private int order = 1;
        private int fineLimit = 10;
        private int longLimit = 500;

        private boolean has(int plate) {
            return plate >= 0 && plate < count && plate < MAX_PLATES;
        }

        private boolean hasPair(int i, int j) {
            return has(i) && has(j) && i < j;
        }

        private boolean hasAll(int plates) {
            return plates < 1 << count;
        }

        private boolean isFactorPair(int a, int b) {
            return a >= -order && a <= order && b >= -order && b <= order && (a != 0 || b != 0);
        }

        private int pOf(int plate) {
            return has(plate) ? p[plate] : 0;
        }

        private int qOf(int plate) {
            return has(plate) ? q[plate] : 0;
        }

        private int areaOf(int plate) {
            return has(plate) ? p[plate] * p[plate] + q[plate] * q[plate] : 0;
        }

        private void put(int plate, int newP, int newQ) {
            if (has(plate)) {
                p[plate] = newP;
                q[plate] = newQ;
            }
        }

        private void append(int newP, int newQ) {
            if (count < MAX_PLATES) {
                count++;
                put(count - 1, newP, newQ);
            }
        }

        private void drop(int plate) {
            if (has(plate)) {
                for (int k = plate; k < count - 1; k++) {
                    put(k, pOf(k + 1), qOf(k + 1));
                }
                count--;
            }
        }

        /** The square of (a + bi) / conj(z(i)) - (c + di) / conj(z(j)), times both areas. */
        private int pairNorm(int i, int j, int a, int b, int c, int d) {
            int x = realPart(pOf(j), qOf(j), a, b) - realPart(pOf(i), qOf(i), c, d);
            int y = imaginaryPart(pOf(j), qOf(j), a, b) - imaginaryPart(pOf(i), qOf(i), c, d);
            return x * x + y * y;
        }
    }

    /**
     * The norms of the combinations of one pair or triple. A right-angled turn of all its vectors at once leaves the
     * square of a combination as it is, so only a quarter of the combinations is held: each stands for TURNS of them.
     */
    private static final class Group {
        private final int[] norms = new int[MAX_NORMS];
        private int size;
        private long areas = 1;
        private long leastFine = 1;
        private long greatestLong = 1;

        private void startPair(State state, int i, int j) {
            start(state, (long) state.areaOf(i) * state.areaOf(j));
        }

        private void start(State state, long productOfAreas) {
            size = 0;
            areas = productOfAreas;
            long fineSquare = (long) state.fineLimit * state.fineLimit;
            long longSquare = (long) state.longLimit * state.longLimit;
            leastFine = divided(areas + fineSquare - 1, fineSquare);
            greatestLong = divided(areas, longSquare);
        }

        private void add(int norm) {
            if (size >= 0 && size < MAX_NORMS) {
                norms[size] = norm;
                size++;
            }
        }

        private void fillPair(State state, int i, int j) {
            startPair(state, i, j);
            for (int a = 1; a <= state.order; a++) {
                for (int b = 0; b <= state.order; b++) {
                    addAllFor(state, i, j, a, b);
                }
            }
        }

        /** The same as pairNorm for all c and d, with what does not change taken out of the loops: the search needs it. */
        private void addAllFor(State state, int i, int j, int a, int b) {
            int p = state.pOf(i);
            int q = state.qOf(i);
            int firstX = realPart(state.pOf(j), state.qOf(j), a, b);
            int firstY = imaginaryPart(state.pOf(j), state.qOf(j), a, b);
            for (int c = -state.order; c <= state.order; c++) {
                for (int d = -state.order; d <= state.order; d++) {
                    if (c != 0 || d != 0) {
                        int x = firstX - realPart(p, q, c, d);
                        int y = firstY - imaginaryPart(p, q, c, d);
                        add(x * x + y * y);
                    }
                }
            }
        }

        /** Adds the norms of z(j) * z(k) + s * z(i) * z(k) + t * z(i) * z(j) for all turns s and t. */
        private void fillTriple(State state, int i, int j, int k) {
            start(state, (long) state.areaOf(i) * state.areaOf(j) * state.areaOf(k));
            int x1 = productReal(state, j, k);
            int y1 = productImaginary(state, j, k);
            int x2 = productReal(state, i, k);
            int y2 = productImaginary(state, i, k);
            int x3 = productReal(state, i, j);
            int y3 = productImaginary(state, i, j);
            for (int s = 0; s < TURNS; s++) {
                for (int t = 0; t < TURNS; t++) {
                    int x = x1 + x2 + x3;
                    int y = y1 + y2 + y3;
                    add(x * x + y * y);
                    int turned = -y3;
                    y3 = x3;
                    x3 = turned;
                }
                int turned = -y2;
                y2 = x2;
                x2 = turned;
            }
        }

        private static int productReal(State state, int i, int j) {
            return state.pOf(i) * state.pOf(j) - state.qOf(i) * state.qOf(j);
        }

        private static int productImaginary(State state, int i, int j) {
            return state.pOf(i) * state.qOf(j) + state.qOf(i) * state.pOf(j);
        }

        /** Fills with the pair or triple that these bits name. */
        private void fillPlates(State state, int plates) {
            int i = firstPlate(plates, 0);
            int j = firstPlate(plates, i + 1);
            int k = firstPlate(plates, j + 1);
            if (k < MAX_PLATES) {
                fillTriple(state, i, j, k);
            } else {
                fillPair(state, i, j);
            }
        }

        /** The first of these plates from a number on; MAX_PLATES if there is none. */
        private static int firstPlate(int plates, int from) {
            for (int plate = from; plate < MAX_PLATES; plate++) {
                if ((plates >> plate & 1) == 1) {
                    return plate;
                }
            }
            return MAX_PLATES;
        }

        private int kindOf(int norm) {
            if (norm == 0) {
                return KIND_LOCKED;
            }
            if (norm >= leastFine) {
                return KIND_FINE;
            }
            return norm <= greatestLong ? KIND_LONG : KIND_BAND;
        }

        private int bandCount() {
            int found = 0;
            for (int n = 0; n < size && n < MAX_NORMS; n++) {
                if (kindOf(norms[n]) == KIND_BAND) {
                    found += TURNS;
                }
            }
            return found;
        }

        private int worstPeriodFound() {
            int least = 0;
            for (int n = 0; n < size && n < MAX_NORMS; n++) {
                if (kindOf(norms[n]) == KIND_BAND && (least == 0 || norms[n] < least)) {
                    least = norms[n];
                }
            }
            return period(least);
        }

        private int combinationsWith(int norm) {
            int found = 0;
            for (int n = 0; n < size && n < MAX_NORMS; n++) {
                if (norms[n] == norm) {
                    found += TURNS;
                }
            }
            return found;
        }

        private void sort() {
            for (int n = 1; n < size && n < MAX_NORMS; n++) {
                int norm = norms[n];
                int place = n;
                while (place > 0 && norms[place - 1] > norm) {
                    norms[place] = norms[place - 1];
                    place--;
                }
                norms[place] = norm;
            }
        }

        /** Needs sorted norms. */
        private int differentNorms() {
            int different = 0;
            for (int n = 0; n < size && n < MAX_NORMS; n++) {
                if (n == 0 || norms[n] != norms[n - 1]) {
                    different++;
                }
            }
            return different;
        }

        /** The different norm with this rank, NONE if there are not so many. Needs sorted norms. */
        private int normAt(int rank) {
            int next = 0;
            for (int n = 0; n < size && n < MAX_NORMS; n++) {
                if (n == 0 || norms[n] != norms[n - 1]) {
                    if (next == rank) {
                        return norms[n];
                    }
                    next++;
                }
            }
            return NONE;
        }

        private long numerator(int norm) {
            return divided(norm, gcd(norm, areas));
        }

        private long denominator(int norm) {
            return divided(areas, gcd(norm, areas));
        }

        /** 0 for the norm 0, which has no period. */
        private int period(int norm) {
            return root(divided(areas, norm));
        }
    }
}
