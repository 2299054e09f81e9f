import java.util.function.IntFunction;

/** Boundaries of promises 18 to 24: the different squares of two plates, locked combinations, bands. */
final class RankBoundaries {
    private static final int BAD = PlateBeats.INVALID_ARGUMENT;
    private static final int NONE = PlateBeats.NONE;

    private interface PairCall {
        long ask(PlateBeats x, int i, int j);
    }

    private interface RankCall {
        long ask(PlateBeats x, int i, int j, int rank);
    }

    private RankBoundaries() {
    }

    static void run() {
        pairs(18, 6, PlateBeats::beatCount);
        pairs(23, 8, PlateBeats::locked);
        pairs(24, 16, PlateBeats::bands);
        forEachCall(19, 1, 2, 1, PlateBeats::beatNumerator);
        forEachCall(20, 100, 25, 608800, PlateBeats::beatDenominator);
        forEachCall(21, 16, 4, 4, PlateBeats::beatFrequency);
        forEachCall(22, 10, 3, 780, PlateBeats::beatPeriod);
        beatCount();
        smallestFirst();
        fractions();
        frequencies();
        squareOfZero();
        periods();
        locked();
        bandsBetweenLimits();
        bandsAtLimits();
    }

    /** Plates (10, 0) with limits that leave the square 1 / 100 as the only band. */
    private static PlateBeats oneHundredth(int count) {
        PlateBeats x = Planners.equal(count);
        x.setLimits(9, 11);
        return x;
    }

    private static void pairs(int promise, long due, PairCall call) {
        Boundary b = new Boundary("INVALID_ARGUMENT if there are no such plates or i is not less than j.", promise);
        aroundPairs(b, due, call);
    }

    private static void aroundPairs(Boundary b, long due, PairCall call) {
        for (int count = 0; count <= 4; count++) {
            PlateBeats x = oneHundredth(count);
            for (int i = -1; i <= count; i++) {
                for (int j = -1; j <= count; j++) {
                    String what = i + ", " + j + " of " + count;
                    if (i >= 0 && i < j && j < count) {
                        b.beyond(what, call.ask(x, i, j), due);
                    } else {
                        b.within(what, call.ask(x, i, j), BAD);
                    }
                }
            }
            b.within("greatest int of " + count, call.ask(x, 0, Integer.MAX_VALUE), BAD);
            b.within("least int of " + count, call.ask(x, Integer.MIN_VALUE, 1), BAD);
        }
    }

    /** Due are the answers for the second and the last square of equal plates, and for the first one of (20, 20), (20, 19). */
    private static void forEachCall(int promise, long second, long last, long smallest, RankCall call) {
        Boundary pairs = new Boundary("INVALID_ARGUMENT if there are no such plates, i is not less than j, or rank is negative",
                promise);
        aroundPairs(pairs, second, (x, i, j) -> call.ask(x, i, j, 1));
        PlateBeats x = Planners.of(20, 20, 20, 19);
        pairs.within("rank -1", call.ask(x, 0, 1, -1), BAD)
                .within("rank of the least int", call.ask(x, 0, 1, Integer.MIN_VALUE), BAD)
                .beyond("rank 0", call.ask(x, 0, 1, 0), smallest);
        PlateBeats equal = Planners.equal(2);
        new Boundary("NONE if there are not so many", promise)
                .beyond("rank 5 of 6", call.ask(equal, 0, 1, 5), last)
                .within("rank 6 of 6", call.ask(equal, 0, 1, 6), NONE)
                .within("rank 7 of 6", call.ask(equal, 0, 1, 7), NONE)
                .within("rank of the greatest int", call.ask(equal, 0, 1, Integer.MAX_VALUE), NONE)
                .within("rank 16 of 16", call.ask(x, 0, 1, 16), NONE);
    }

    /** (20, 20), (20, 19) have 16 different squares at order 1, a quarter of 64; none have more than (1, 0), (2, 18) at 2. */
    private static void beatCount() {
        PlateBeats most = Planners.of(20, 20, 20, 19);
        PlateBeats equal = Planners.equal(2);
        Boundary b = new Boundary("Returns how many different squares their combinations have", 18)
                .within("no two classes equal, order 1", most.beatCount(0, 1), 16)
                .beyond("equal plates, order 1", equal.beatCount(0, 1), 6);
        equal.setOrder(2);
        b.beyond("equal plates, order 2", equal.beatCount(0, 1), differentSums(4));
        PlateBeats order2 = Planners.limitedAtOrder2(10, 500, 1, 0, 2, 18);
        b.within("the most that there are at order 2", order2.beatCount(0, 1), 140)
                .within("the last of them", order2.beatFrequency(0, 1, 139), 4)
                .beyond("one more", order2.beatFrequency(0, 1, 140), NONE);
        for (int rank = 0; rank < 16; rank++) {
            b.within("rank " + rank, most.beatFrequency(0, 1, rank), 4);
        }
        b.beyond("rank 16", most.beatFrequency(0, 1, 16), NONE);
    }

    /** How many different sums of two squares of numbers up to this one there are. */
    private static int differentSums(int greatest) {
        java.util.Set<Integer> sums = new java.util.TreeSet<>();
        for (int x = 0; x <= greatest; x++) {
            for (int y = 0; y <= greatest; y++) {
                sums.add(x * x + y * y);
            }
        }
        return sums.size();
    }

    private static void smallestFirst() {
        Boundary b = new Boundary("- `rank`: 0 for the smallest square, and so on", 19, 20);
        for (int order = 1; order <= 2; order++) {
            PlateBeats x = Planners.of(9, 4, 11, 3);
            x.setOrder(order);
            int count = x.beatCount(0, 1);
            long numerator = 0;
            long denominator = 1;
            for (int rank = 0; rank < count; rank++) {
                long nextNumerator = x.beatNumerator(0, 1, rank);
                long nextDenominator = x.beatDenominator(0, 1, rank);
                boolean greater = numerator * nextDenominator < nextNumerator * denominator;
                b.within("rank " + rank + " is greater than the one before it", greater ? 1 : 0, 1);
                numerator = nextNumerator;
                denominator = nextDenominator;
            }
            b.within("the last one is there", x.beatNumerator(0, 1, count - 1) > 0 ? 1 : 0, 1);
            b.beyond("one more is not there", x.beatNumerator(0, 1, count), NONE);
            b.beyond("one more is not there", x.beatDenominator(0, 1, count), NONE);
        }
    }

    private static void fractions() {
        PlateBeats equal = Planners.equal(2);
        PlateBeats other = Planners.of(20, 20, 20, 19);
        new Boundary("zero is 0/1", 19, 20)
                .within("numerator", equal.beatNumerator(0, 1, 0), 0)
                .within("denominator", equal.beatDenominator(0, 1, 0), 1)
                .beyond("the smallest one: numerator", other.beatNumerator(0, 1, 0), 1)
                .beyond("the smallest one: denominator", other.beatDenominator(0, 1, 0), 608800);
        new Boundary("A fraction is given in lowest terms, with a positive denominator", 19, 20)
                .within("2 / 100: numerator", equal.beatNumerator(0, 1, 2), 1)
                .within("2 / 100: denominator", equal.beatDenominator(0, 1, 2), 50)
                .within("8 / 100: numerator", equal.beatNumerator(0, 1, 5), 2)
                .within("8 / 100: denominator", equal.beatDenominator(0, 1, 5), 25)
                .beyond("1 / 100: numerator", equal.beatNumerator(0, 1, 1), 1)
                .beyond("1 / 100: denominator", equal.beatDenominator(0, 1, 1), 100);
    }

    private static void frequencies() {
        Boundary b = new Boundary("Returns how many combinations have this square", 21);
        for (int order = 1; order <= 2; order++) {
            PlateBeats x = Planners.of(9, 4, 11, 3, 9, 4);
            x.setOrder(order);
            int vectors = (2 * order + 1) * (2 * order + 1) - 1;
            for (int j = 1; j <= 2; j++) {
                IntFunction<Integer> frequency = ofPair(x, j);
                int sum = 0;
                for (int rank = 0; rank < x.beatCount(0, j); rank++) {
                    sum += frequency.apply(rank);
                }
                b.within("all of them", sum, vectors * vectors);
                b.beyond("one more", frequency.apply(x.beatCount(0, j)), NONE);
            }
            b.within("those of square 0", x.beatFrequency(0, 2, 0), vectors);
            b.within("as many as are locked", x.locked(0, 2), vectors);
            b.beyond("no square 0", x.beatFrequency(0, 1, 0), 4);
        }
    }

    private static IntFunction<Integer> ofPair(PlateBeats x, int j) {
        return rank -> x.beatFrequency(0, j, rank);
    }

    private static void squareOfZero() {
        PlateBeats equal = Planners.equal(2);
        PlateBeats other = Planners.of(20, 20, 20, 19);
        new Boundary("NONE if there are not so many, or the square is 0", 22)
                .within("square 0", equal.beatPeriod(0, 1, 0), NONE)
                .beyond("the square behind it", equal.beatPeriod(0, 1, 1), 10)
                .beyond("no square 0", other.beatPeriod(0, 1, 0), 780);
    }

    private static int periodOf(PlateBeats x, long numerator, long denominator) {
        for (int rank = 0; rank < x.beatCount(0, 1); rank++) {
            if (x.beatNumerator(0, 1, rank) == numerator && x.beatDenominator(0, 1, rank) == denominator) {
                return x.beatPeriod(0, 1, rank);
            }
        }
        return Integer.MIN_VALUE;
    }

    /** Squares at, just below and just above 1 over a square number. */
    private static void periods() {
        new Boundary("The period of a combination whose square is S, greater than 0, "
                + "is the greatest number whose square is at most 1 / S.", 22)
                .within("1 / S is 100", periodOf(Planners.of(1, 3, 2, 4), 1, 100), 10)
                .within("1 / S is 100.001", periodOf(Planners.of(6, 19, 13, 8), 925, 92501), 10)
                .beyond("1 / S is 99.996", periodOf(Planners.of(6, 15, 18, 17), 1600, 159993), 9)
                .within("1 / S is 10000", periodOf(Planners.of(10, 20, 12, 16), 1, 10000), 100)
                .beyond("1 / S is 9995.6", periodOf(Planners.of(11, 15, 14, 18), 9, 89960), 99)
                .within("1 / S is 4", periodOf(Planners.of(1, 0, 2, 0), 1, 4), 2)
                .within("1 / S is 4.001", periodOf(Planners.of(3, 0, 5, 18), 785, 3141), 2)
                .beyond("1 / S is 3.996", periodOf(Planners.of(3, 0, 4, 20), 937, 3744), 1)
                .within("1 / S is 1", periodOf(Planners.of(1, 0, 1, 0), 1, 1), 1)
                .within("1 / S is 1.0025", periodOf(Planners.of(1, 0, 1, 20), 400, 401), 1)
                .beyond("1 / S is 0.9975", periodOf(Planners.of(1, 0, 20, 0), 401, 400), 0)
                .beyond("1 / S is 0.125", periodOf(Planners.of(1, 0, 1, 0), 8, 1), 0)
                .within("1 / S is 608800, between the squares of 780 and 781",
                        periodOf(Planners.of(20, 20, 20, 19), 1, 608800), 780);
    }

    /** (5, 5) and (10, 0): the vectors of the one are those of the other, turned by 45 degrees and stretched. */
    private static void locked() {
        PlateBeats x = Planners.of(20, 20, 20, 20, 20, 19, 10, 10);
        PlateBeats y = Planners.of(5, 5, 10, 0);
        Boundary b = new Boundary("Returns the number of their combinations that are locked", 23)
                .within("equal plates, order 1", x.locked(0, 1), 8)
                .beyond("the smallest square that is not 0", x.locked(0, 2), 0)
                .beyond("half the plate, order 1", x.locked(0, 3), 0)
                .within("turned, order 1", y.locked(0, 1), 4)
                .beyond("mirrored", Planners.of(4, 3, 3, 4).locked(0, 1), 0);
        x.setOrder(2);
        y.setOrder(2);
        b.within("equal plates, order 2", x.locked(0, 1), 24)
                .beyond("the smallest square that is not 0, order 2", x.locked(0, 2), 0)
                .within("half the plate, order 2", x.locked(0, 3), 8)
                .within("turned, order 2", y.locked(0, 1), 12);
    }

    /** Equal plates (10, 0): 8 squares are 0, 16 are 1 / 100, 8 are 2 / 100, 12 are 4, 16 are 5 and 4 are 8 / 100. */
    private static void bandsBetweenLimits() {
        Boundary b = new Boundary("Returns the number of their bands", 24);
        int[][] rows = {{1, 10000, 56}, {9, 11, 16}, {9, 10, 0}, {10, 11, 0}, {7, 10, 8}, {7, 11, 24}, {7, 8, 8}, {8, 10, 0},
            {4, 5, 16}, {4, 6, 28}, {5, 6, 0}, {3, 4, 4}, {1, 3, 0}};
        for (int[] row : rows) {
            String limits = row[0] + ", " + row[1];
            long got = Planners.limited(row[0], row[1], 10, 0, 10, 0).bands(0, 1);
            if (row[2] > 0) {
                b.within(limits, got, row[2]);
            } else {
                b.beyond(limits, got, 0);
            }
        }
    }

    /** The square 2 / 200 alone is between 1 / 81 and 1 / 121. */
    private static void bandsAtLimits() {
        new Boundary("The bands of two or three plates are their combinations that are bands.", 24)
                .within("S is 1 / (F + 1) squared", Planners.limited(9, 11, 1, 3, 2, 4).bands(0, 1), 4)
                .beyond("S is 1 / F squared", Planners.limited(10, 11, 1, 3, 2, 4).bands(0, 1), 0)
                .beyond("S is 1 / L squared", Planners.limited(9, 10, 1, 3, 2, 4).bands(0, 1), 0)
                .within("F 780, L 781", Planners.limited(780, 781, 20, 20, 20, 19).bands(0, 1), 4)
                .beyond("F 781, L 782", Planners.limited(781, 782, 20, 20, 20, 19).bands(0, 1), 0)
                .beyond("F 779, L 780", Planners.limited(779, 780, 20, 20, 20, 19).bands(0, 1), 0);
    }
}
