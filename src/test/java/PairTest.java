/** Promises 15 to 24: the beats of two plates. */
final class PairTest {
    private static final int BAD = PlateBeats.INVALID_ARGUMENT;
    private static final int[][] BAD_PAIRS = {
        {0, 0}, {1, 0}, {1, 1}, {2, 0}, {-1, 0}, {-1, 1}, {0, -1}, {0, 3}, {2, 3}, {3, 4}, {0, 32}, {0, Integer.MAX_VALUE},
        {Integer.MIN_VALUE, 1}, {Integer.MIN_VALUE, Integer.MAX_VALUE}};

    private PairTest() {
    }

    static void run() {
        combinations();
        badCombinations();
        ranks();
        badRanks();
        badPairs();
        lockedAndBands();
        longPeriods();
    }

    private static PlateBeats plates(int... pq) {
        PlateBeats x = new PlateBeats();
        for (int k = 0; k + 1 < pq.length; k += 2) {
            x.addPlate(pq[k], pq[k + 1]);
        }
        return x;
    }

    private static void square(PlateBeats x, int[] combination, long num, long den, int kind) {
        int a = combination[0];
        int b = combination[1];
        int c = combination[2];
        int d = combination[3];
        String what = java.util.Arrays.toString(combination);
        Check.due("15: " + what, x.squareNumerator(0, 1, a, b, c, d), num);
        Check.due("16: " + what, x.squareDenominator(0, 1, a, b, c, d), den);
        Check.due("17: " + what, x.kind(0, 1, a, b, c, d), kind);
    }

    /** (3, 1) has u = (3/10, 1/10) and v = (-1/10, 3/10); (2, 0) has u = (1/2, 0) and v = (0, 1/2). */
    private static void combinations() {
        PlateBeats x = plates(3, 1, 2, 0, 20, 20);
        x.setLimits(2, 3);
        square(x, new int[] {1, 0, 1, 0}, 1, 20, 2);
        square(x, new int[] {1, 0, 0, 1}, 1, 4, 1);
        square(x, new int[] {-1, 0, 0, 1}, 9, 20, 1);
        square(x, new int[] {1, 1, 1, 1}, 1, 10, 2);
        square(x, new int[] {0, 1, -1, 1}, 1, 5, 3);
        square(x, new int[] {1, -1, -1, 1}, 13, 10, 1);
        x.setScreen(1, 3, 1);
        square(x, new int[] {1, 0, 1, 0}, 0, 1, 0);
        square(x, new int[] {1, 1, 1, 1}, 0, 1, 0);
        x.setOrder(2);
        x.setScreen(1, 6, 2);
        square(x, new int[] {1, 0, 2, 0}, 0, 1, 0);
        square(x, new int[] {2, 0, 1, 0}, 9, 40, 3);
        square(x, new int[] {-2, 2, 2, -2}, 9, 5, 1);
    }

    private static void badCombination(PlateBeats x, int i, int j, int[] n) {
        Check.due("15: bad", x.squareNumerator(i, j, n[0], n[1], n[2], n[3]), BAD);
        Check.due("16: bad", x.squareDenominator(i, j, n[0], n[1], n[2], n[3]), BAD);
        Check.due("17: bad", x.kind(i, j, n[0], n[1], n[2], n[3]), BAD);
    }

    private static void badCombinations() {
        PlateBeats x = plates(3, 1, 2, 0, 5, 5);
        for (int[] pair : BAD_PAIRS) {
            badCombination(x, pair[0], pair[1], new int[] {1, 0, 1, 0});
        }
        badCombination(x, 0, 1, new int[] {0, 0, 1, 0});
        badCombination(x, 0, 1, new int[] {1, 0, 0, 0});
        for (int order = 1; order <= 2; order++) {
            x.setOrder(order);
            for (int place = 0; place < 4; place++) {
                for (int bad : new int[] {order + 1, -order - 1, Integer.MAX_VALUE, Integer.MIN_VALUE}) {
                    int[] n = {1, 1, 1, 1};
                    n[place] = bad;
                    badCombination(x, 0, 1, n);
                }
                int[] greatest = {1, 1, 1, 1};
                greatest[place] = order;
                Check.holds("17: greatest", x.kind(0, 1, greatest[0], greatest[1], greatest[2], greatest[3]) >= 0);
            }
        }
    }

    /** Two plates (1, 0): the squares are those of the differences of two whole vectors. */
    private static void ranks() {
        PlateBeats x = plates(1, 0, 1, 0);
        long[] squares = {0, 1, 2, 4, 5, 8};
        int[] frequencies = {8, 16, 8, 12, 16, 4};
        int[] periods = {PlateBeats.NONE, 1, 0, 0, 0, 0};
        Check.due("18: different squares", x.beatCount(0, 1), squares.length);
        for (int rank = 0; rank < squares.length; rank++) {
            Check.due("19: rank " + rank, x.beatNumerator(0, 1, rank), squares[rank]);
            Check.due("20: rank " + rank, x.beatDenominator(0, 1, rank), 1);
            Check.due("21: rank " + rank, x.beatFrequency(0, 1, rank), frequencies[rank]);
            Check.due("22: rank " + rank, x.beatPeriod(0, 1, rank), periods[rank]);
        }
        PlateBeats y = plates(10, 0, 10, 0);
        Check.due("19: lowest terms", y.beatNumerator(0, 1, 2), 1);
        Check.due("20: lowest terms", y.beatDenominator(0, 1, 2), 50);
        Check.due("20: zero is 0/1", y.beatDenominator(0, 1, 0), 1);
        Check.due("22: a whole root", y.beatPeriod(0, 1, 1), 10);
        Check.due("22: rounded down", y.beatPeriod(0, 1, 2), 7);
        Check.due("18: no action", y.historySize(), 2);
    }

    private static void badRanks() {
        PlateBeats x = plates(1, 0, 1, 0);
        for (int rank : new int[] {6, 7, 144, 1000, Integer.MAX_VALUE}) {
            Check.due("19: too great", x.beatNumerator(0, 1, rank), PlateBeats.NONE);
            Check.due("20: too great", x.beatDenominator(0, 1, rank), PlateBeats.NONE);
            Check.due("21: too great", x.beatFrequency(0, 1, rank), PlateBeats.NONE);
            Check.due("22: too great", x.beatPeriod(0, 1, rank), PlateBeats.NONE);
        }
        for (int rank : new int[] {-1, -2, Integer.MIN_VALUE}) {
            badRank(x, 0, 1, rank);
        }
    }

    private static void badRank(PlateBeats x, int i, int j, int rank) {
        Check.due("19: bad", x.beatNumerator(i, j, rank), BAD);
        Check.due("20: bad", x.beatDenominator(i, j, rank), BAD);
        Check.due("21: bad", x.beatFrequency(i, j, rank), BAD);
        Check.due("22: bad", x.beatPeriod(i, j, rank), BAD);
    }

    private static void badPairs() {
        PlateBeats x = plates(3, 1, 2, 0, 5, 5);
        for (int[] pair : BAD_PAIRS) {
            Check.due("18: bad", x.beatCount(pair[0], pair[1]), BAD);
            Check.due("23: bad", x.locked(pair[0], pair[1]), BAD);
            Check.due("24: bad", x.bands(pair[0], pair[1]), BAD);
            badRank(x, pair[0], pair[1], 0);
            badRank(x, pair[0], pair[1], 1000);
        }
    }

    private static void lockedAndBands() {
        PlateBeats x = plates(10, 0, 10, 0, 20, 0);
        Check.due("23: equal plates", x.locked(0, 1), 8);
        Check.due("23: no factor 2 at order 1", x.locked(0, 2), 0);
        Check.due("24: all fine", x.bands(0, 1), 0);
        x.setLimits(9, 11);
        Check.due("24: square 1/100 alone", x.bands(0, 1), 16);
        x.setLimits(7, 11);
        Check.due("24: and 2/100", x.bands(0, 1), 24);
        x.setLimits(7, 10);
        Check.due("24: 2/100 alone", x.bands(0, 1), 8);
        x.setOrder(2);
        Check.due("23: equal plates at order 2", x.locked(0, 1), 24);
        Check.due("23: factors 1 and 2", x.locked(0, 2), 8);
    }

    private static void longPeriods() {
        PlateBeats x = plates(20, 20, 20, 19);
        Check.due("19: long", x.beatNumerator(0, 1, 0), 1);
        Check.due("20: long", x.beatDenominator(0, 1, 0), 608800);
        Check.due("21: long", x.beatFrequency(0, 1, 0), 4);
        Check.due("22: long", x.beatPeriod(0, 1, 0), 780);
    }
}
