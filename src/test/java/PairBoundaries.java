/** Boundaries of promises 15 to 17: the square and the kind of a combination. */
final class PairBoundaries {
    private static final int BAD = PlateBeats.INVALID_ARGUMENT;
    private static final int LOCKED = 0;
    private static final int FINE = 1;
    private static final int LONG = 2;
    private static final int BAND = 3;

    private interface Call {
        long ask(PlateBeats x, int i, int j, int[] n);
    }

    private PairBoundaries() {
    }

    static void run() {
        forEachCall(15, (x, i, j, n) -> x.squareNumerator(i, j, n[0], n[1], n[2], n[3]), 0, 5);
        forEachCall(16, (x, i, j, n) -> x.squareDenominator(i, j, n[0], n[1], n[2], n[3]), 1, 1);
        forEachCall(17, (x, i, j, n) -> x.kind(i, j, n[0], n[1], n[2], n[3]), LOCKED, FINE);
        zeroSquare();
        lowestTerms();
        locked();
        fine();
        fineAtBothEnds();
        longKind();
        longAtBothEnds();
        band();
    }

    /** With plates (1, 0): the due answers for a square of 0 and for one of 5. */
    private static void forEachCall(int promise, Call call, long zero, long five) {
        plates(promise, call, zero);
        numbers(promise, call, zero, five);
        bothZero(promise, call);
    }

    private static PlateBeats units(int count) {
        PlateBeats x = new PlateBeats();
        for (int k = 0; k < count; k++) {
            x.addPlate(1, 0);
        }
        return x;
    }

    private static void plates(int promise, Call call, long zero) {
        Boundary b = new Boundary("INVALID_ARGUMENT if there are no such plates or i is not less than j", promise);
        int[] n = {1, 0, 1, 0};
        for (int count = 0; count <= 4; count++) {
            PlateBeats x = units(count);
            for (int i = -1; i <= count; i++) {
                for (int j = -1; j <= count; j++) {
                    String what = i + ", " + j + " of " + count;
                    if (i >= 0 && i < j && j < count) {
                        b.beyond(what, call.ask(x, i, j, n), zero);
                    } else {
                        b.within(what, call.ask(x, i, j, n), BAD);
                    }
                }
            }
            b.within("greatest int of " + count, call.ask(x, 0, Integer.MAX_VALUE, n), BAD);
            b.within("least int of " + count, call.ask(x, Integer.MIN_VALUE, 1, n), BAD);
        }
    }

    /** One number is 2 or 1 away from those of an equal one, so that the square is 0, 1, 4, 5 or 9. */
    private static void numbers(int promise, Call call, long zero, long five) {
        Boundary b = new Boundary("- `a`: -order to order - `b`: -order to order - `c`: -order to order - `d`: -order to order",
                promise);
        for (int order = 1; order <= 2; order++) {
            PlateBeats x = units(2);
            x.setOrder(order);
            for (int place = 0; place < 4; place++) {
                for (int sign = -1; sign <= 1; sign += 2) {
                    int[] n = {sign * order, sign * order, sign * order, sign * order};
                    String what = "order " + order + ", place " + place + ", sign " + sign;
                    b.within(what + ": order", call.ask(x, 0, 1, n), zero);
                    n[place] = sign * (order + 1);
                    b.beyond(what + ": order + 1", call.ask(x, 0, 1, n), BAD);
                    n[place] = sign < 0 ? Integer.MIN_VALUE : Integer.MAX_VALUE;
                    b.beyond(what + ": extreme", call.ask(x, 0, 1, n), BAD);
                }
            }
            b.within("order " + order + ": the square is 5", call.ask(x, 0, 1, new int[] {1, 1, -1, 0}), five);
        }
    }

    private static void bothZero(int promise, Call call) {
        Boundary b = new Boundary("a and b are both 0, or c and d are both 0", promise);
        for (int order = 1; order <= 2; order++) {
            PlateBeats x = Planners.limitedAtOrder2(1, 10, 1, 0, 1, 0);
            x.setOrder(order);
            int[][] zeros = {{0, 0, 1, 0}, {0, 0, 0, 1}, {0, 0, -1, -1}, {1, 0, 0, 0}, {0, 1, 0, 0}, {-1, 1, 0, 0}, {0, 0, 0, 0}};
            for (int[] n : zeros) {
                b.within(java.util.Arrays.toString(n), call.ask(x, 0, 1, n), BAD);
            }
            int[][] others = {{1, 0, 1, 0}, {0, 1, 0, 1}, {1, 0, 0, 1}, {0, 1, 1, 0}, {-1, 0, 0, -1}, {0, -1, -1, 0}};
            for (int[] n : others) {
                long square = (n[0] - n[2]) * (n[0] - n[2]) + (n[1] - n[3]) * (n[1] - n[3]);
                long[] dues = {square, 1, square == 0 ? LOCKED : FINE};
                b.beyond(java.util.Arrays.toString(n), call.ask(x, 0, 1, n), dues[promise - 15]);
            }
        }
    }

    private static void zeroSquare() {
        PlateBeats x = Planners.of(4, 3, 4, 3, 20, 20, 20, 19);
        new Boundary("zero is 0/1", 15, 16)
                .within("numerator", x.squareNumerator(0, 1, 1, 0, 1, 0), 0)
                .within("denominator", x.squareDenominator(0, 1, 1, 0, 1, 0), 1)
                .within("numerator", x.squareNumerator(0, 1, -1, 1, -1, 1), 0)
                .within("denominator", x.squareDenominator(0, 1, -1, 1, -1, 1), 1)
                .beyond("the smallest one: numerator", x.squareNumerator(2, 3, 1, 0, 1, 0), 1)
                .beyond("the smallest one: denominator", x.squareDenominator(2, 3, 1, 0, 1, 0), 608800);
    }

    private static void lowestTerms() {
        PlateBeats x = Planners.of(10, 0, 20, 0, 3, 1, 2, 0);
        new Boundary("A fraction is given in lowest terms, with a positive denominator", 15, 16)
                .within("100 / 40000: numerator", x.squareNumerator(0, 1, 1, 0, 1, 0), 1)
                .within("100 / 40000: denominator", x.squareDenominator(0, 1, 1, 0, 1, 0), 400)
                .within("52 / 40: numerator", x.squareNumerator(2, 3, 1, -1, -1, 1), 13)
                .within("52 / 40: denominator", x.squareDenominator(2, 3, 1, -1, -1, 1), 10)
                .within("4 / 40: numerator", x.squareNumerator(2, 3, 1, 1, 1, 1), 1)
                .within("4 / 40: denominator", x.squareDenominator(2, 3, 1, 1, 1, 1), 10)
                .beyond("lowest at once: numerator", Planners.of(6, 15, 18, 17).squareNumerator(0, 1, 1, 0, -1, 0), 1600)
                .beyond("lowest at once: denominator", Planners.of(6, 15, 18, 17).squareDenominator(0, 1, 1, 0, -1, 0), 159993);
    }

    private static void locked() {
        PlateBeats x = Planners.limitedAtOrder2(1, 10000, 20, 20, 20, 19, 20, 20, 10, 10);
        new Boundary("A combination is locked (kind 0) if its square is 0.", 17)
                .within("equal plates", x.kind(0, 2, 1, 0, 1, 0), LOCKED)
                .within("equal plates", x.kind(0, 2, -2, 1, -2, 1), LOCKED)
                .within("half the plate", x.kind(0, 3, 2, 0, 1, 0), LOCKED)
                .within("half the plate", x.kind(2, 3, -2, 2, -1, 1), LOCKED)
                .beyond("the smallest square", x.kind(0, 1, 1, 0, 1, 0), BAND)
                .beyond("the smallest square, turned", x.kind(0, 1, 0, 1, 0, 1), BAND)
                .beyond("half the plate the other way", x.kind(0, 3, 1, 0, 2, 0), BAND);
    }

    /** The squares are 1 / 100 exactly, 1600 / 159993 (more than that) and 925 / 92501 (less than that). */
    private static void fine() {
        Boundary b = new Boundary("Otherwise it is fine (1) if its square times F * F is at least 1", 17);
        b.within("exactly 1", Planners.of(1, 3, 2, 4).kind(0, 1, 1, 0, 1, 0), FINE)
                .within("more than 1", Planners.of(6, 15, 18, 17).kind(0, 1, 1, 0, -1, 0), FINE)
                .beyond("less than 1", Planners.of(6, 19, 13, 8).kind(0, 1, 1, 1, -1, 0), BAND)
                .beyond("exactly 1, a smaller F", Planners.limited(9, 500, 1, 3, 2, 4).kind(0, 1, 1, 0, 1, 0), BAND)
                .within("exactly 1, a greater F", Planners.limited(11, 500, 1, 3, 2, 4).kind(0, 1, 1, 0, 1, 0), FINE)
                .within("less than 1, a greater F", Planners.limited(11, 500, 6, 19, 13, 8).kind(0, 1, 1, 1, -1, 0), FINE);
    }

    /** The squares are 1, 401 / 400, 400 / 401 and 1 / 608800, whose root is between 780 and 781. */
    private static void fineAtBothEnds() {
        PlateBeats unit = Planners.limited(1, 2, 1, 0, 1, 0, 20, 0, 1, 20);
        PlateBeats smallest = Planners.limited(780, 10000, 20, 20, 20, 19);
        Boundary b = new Boundary("The fine limit F is 1 to 1000", 17)
                .within("F = 1: 1", unit.kind(0, 1, 1, 0, 1, -1), FINE)
                .within("F = 1: 401 / 400", unit.kind(0, 2, 1, 0, 0, -1), FINE)
                .beyond("F = 1: 400 / 401", unit.kind(0, 3, 1, 0, 1, 0), BAND)
                .beyond("F = 780: 1 / 608800", smallest.kind(0, 1, 1, 0, 1, 0), BAND);
        smallest.setLimits(781, 10000);
        b.within("F = 781: 1 / 608800", smallest.kind(0, 1, 1, 0, 1, 0), FINE);
        smallest.setLimits(1000, 1001);
        b.within("F = 1000: 1 / 608800", smallest.kind(0, 1, 1, 0, 1, 0), FINE);
    }

    /** The squares are 1 / 10000 exactly, 8 / 80002 (less than that) and 18 / 179920 (more than that). */
    private static void longKind() {
        Boundary b = new Boundary("otherwise long (2) if its square times L * L is at most 1", 17);
        b.within("exactly 1", Planners.limited(10, 100, 10, 20, 12, 16).kind(0, 1, 1, 0, 1, 0), LONG)
                .within("less than 1", Planners.limited(10, 100, 1, 19, 10, 11).kind(0, 1, 1, 1, 0, 1), LONG)
                .beyond("more than 1", Planners.limited(10, 100, 11, 15, 14, 18).kind(0, 1, 1, 0, 1, 0), BAND)
                .beyond("exactly 1, a greater L", Planners.limited(10, 101, 10, 20, 12, 16).kind(0, 1, 1, 0, 1, 0), BAND)
                .within("exactly 1, a smaller L", Planners.limited(10, 99, 10, 20, 12, 16).kind(0, 1, 1, 0, 1, 0), LONG)
                .within("more than 1, a smaller L", Planners.limited(10, 99, 11, 15, 14, 18).kind(0, 1, 1, 0, 1, 0), LONG);
    }

    /** The squares are 1 / 4, 785 / 3141, 937 / 3744 and 1 / 608800. */
    private static void longAtBothEnds() {
        PlateBeats x = Planners.limited(1, 2, 1, 0, 2, 0);
        PlateBeats y = Planners.limited(1, 2, 3, 0, 5, 18, 4, 20);
        PlateBeats smallest = Planners.limited(100, 780, 20, 20, 20, 19);
        Boundary b = new Boundary("the long limit L is greater than F and at most 10000", 17)
                .within("L = 2: 1 / 4", x.kind(0, 1, 1, 0, 1, 0), LONG)
                .within("L = 2: 785 / 3141", y.kind(0, 1, 1, 1, 0, 1), LONG)
                .beyond("L = 2: 937 / 3744", y.kind(0, 2, 1, 1, 0, 1), BAND)
                .within("L = 780: 1 / 608800", smallest.kind(0, 1, 1, 0, 1, 0), LONG);
        smallest.setLimits(100, 781);
        b.beyond("L = 781: 1 / 608800", smallest.kind(0, 1, 1, 0, 1, 0), BAND);
        smallest.setLimits(100, 10000);
        b.beyond("L = 10000: 1 / 608800", smallest.kind(0, 1, 1, 0, 1, 0), BAND);
    }

    private static void band() {
        new Boundary("otherwise it is a band (3)", 17)
                .within("F 99, L 101: 1 / 10000", Planners.limited(99, 101, 10, 20, 12, 16).kind(0, 1, 1, 0, 1, 0), BAND)
                .beyond("F 99, L 100: 1 / 10000", Planners.limited(99, 100, 10, 20, 12, 16).kind(0, 1, 1, 0, 1, 0), LONG)
                .beyond("F 100, L 101: 1 / 10000", Planners.limited(100, 101, 10, 20, 12, 16).kind(0, 1, 1, 0, 1, 0), FINE)
                .within("F 780, L 781: 1 / 608800", Planners.limited(780, 781, 20, 20, 20, 19).kind(0, 1, 1, 0, 1, 0), BAND)
                .beyond("F 779, L 780: 1 / 608800", Planners.limited(779, 780, 20, 20, 20, 19).kind(0, 1, 1, 0, 1, 0), LONG)
                .beyond("F 781, L 782: 1 / 608800", Planners.limited(781, 782, 20, 20, 20, 19).kind(0, 1, 1, 0, 1, 0), FINE);
    }
}
