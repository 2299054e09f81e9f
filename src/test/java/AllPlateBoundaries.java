/** Boundaries of promises 25 to 29: three plates and all plates. */
final class AllPlateBoundaries {
    private static final int BAD = PlateBeats.INVALID_ARGUMENT;
    private static final int NONE = PlateBeats.NONE;
    /** The rows of ties: p and q of four plates, then F and L, then the plates of the worst band and its period. */
    private static final int FINE = 8;
    private static final int PLATES = 10;
    private static final int PERIOD = 11;

    private AllPlateBoundaries() {
    }

    static void run() {
        triplePlates();
        tripleRange();
        tripleCombinations();
        tripleFine();
        tripleLong();
        tripleLimitsAtTheirEnds();
        allBands();
        noBands();
        noWorstPeriod();
        worstBits();
        severalWorst();
        pairsBeforeTriples();
        greatestPeriod();
        worstPeriodLimits();
        worstPairPlates();
        worstPairWithoutBands();
        worstPairs();
    }

    private static PlateBeats oneHundredth(int count) {
        PlateBeats x = Planners.equal(count);
        x.setLimits(9, 11);
        return x;
    }

    private static void triplePlates() {
        Boundary b = new Boundary(
                "INVALID_ARGUMENT if there are no such plates, i is not less than j, or j is not less than k.", 25);
        for (int count = 0; count <= 4; count++) {
            PlateBeats x = oneHundredth(count);
            for (int i = -1; i <= count; i++) {
                for (int j = -1; j <= count; j++) {
                    for (int k = -1; k <= count; k++) {
                        String what = i + ", " + j + ", " + k + " of " + count;
                        if (i >= 0 && i < j && j < k && k < count) {
                            b.beyond(what, x.tripleBands(i, j, k), 36);
                        } else {
                            b.within(what, x.tripleBands(i, j, k), BAD);
                        }
                    }
                }
            }
        }
    }

    private static void tripleRange() {
        PlateBeats x = oneHundredth(4);
        new Boundary("(i less than j, j less than k)", 25)
                .within("the first ones", x.tripleBands(0, 1, 2), 36)
                .within("the last ones", x.tripleBands(1, 2, 3), 36)
                .beyond("i is j", x.tripleBands(1, 1, 2), BAD)
                .beyond("j is k", x.tripleBands(0, 1, 1), BAD)
                .beyond("i is greater than j", x.tripleBands(1, 0, 2), BAD)
                .beyond("j is greater than k", x.tripleBands(0, 2, 1), BAD)
                .beyond("least int", x.tripleBands(Integer.MIN_VALUE, 0, 1), BAD)
                .beyond("greatest int", x.tripleBands(0, 1, Integer.MAX_VALUE), BAD);
    }

    /** Of three plates (10, 0), 36 combinations have the square 1 / 100, 24 have 5 / 100 and 4 have 9 / 100. */
    private static void tripleCombinations() {
        new Boundary("There are 64 combinations of three plates.", 25)
                .within("all are bands, order 1", Planners.limited(3, 11, 10, 0, 10, 0, 10, 0).tripleBands(0, 1, 2), 64)
                .within("all are bands, order 2", Planners.limitedAtOrder2(3, 11, 10, 0, 10, 0, 10, 0).tripleBands(0, 1, 2), 64)
                .beyond("without 9 / 100", Planners.limited(4, 11, 10, 0, 10, 0, 10, 0).tripleBands(0, 1, 2), 60)
                .beyond("without 1 / 100", Planners.limited(3, 10, 10, 0, 10, 0, 10, 0).tripleBands(0, 1, 2), 28)
                .beyond("9 / 100 alone", Planners.limited(3, 4, 10, 0, 10, 0, 10, 0).tripleBands(0, 1, 2), 4)
                .beyond("none", Planners.limited(5, 6, 10, 0, 10, 0, 10, 0).tripleBands(0, 1, 2), 0);
    }

    /** How many bands more or less there are with the one F than with the other one, the same L. */
    private static long fineStep(int fine, int... pq) {
        PlateBeats x = Planners.limited(fine, 10000, pq);
        long bands = x.tripleBands(0, 1, 2);
        x.setLimits(fine + 1, 10000);
        return bands - x.tripleBands(0, 1, 2);
    }

    /** Squares of 1 / 10000 exactly, 5617 / 56170036 (less than that) and 3368 / 33679620 (more than that). */
    private static void tripleFine() {
        new Boundary("Otherwise it is fine (1) if its square times F * F is at least 1", 25)
                .within("exactly 1: a band with 99, fine with 100", fineStep(99, 1, 7, 4, 8, 20, 10), 4)
                .beyond("exactly 1: fine with 100 and with 101", fineStep(100, 1, 7, 4, 8, 20, 10), 0)
                .beyond("less than 1: a band with 99 and with 100", fineStep(99, 2, 15, 10, 16, 20, 17), 0)
                .within("less than 1: fine with 101", fineStep(100, 2, 15, 10, 16, 20, 17), 4)
                .within("more than 1: fine with 100", fineStep(99, 3, 15, 17, 9, 17, 10), 4)
                .beyond("more than 1: fine with 100 and with 101", fineStep(100, 3, 15, 17, 9, 17, 10), 0);
    }

    /** How many bands more there are with the next greater L, the same F. */
    private static long longStep(int longLimit, int... pq) {
        PlateBeats x = Planners.limited(longLimit - 2, longLimit, pq);
        long bands = x.tripleBands(0, 1, 2);
        x.setLimits(longLimit - 2, longLimit + 1);
        return x.tripleBands(0, 1, 2) - bands;
    }

    private static void tripleLong() {
        new Boundary("otherwise long (2) if its square times L * L is at most 1", 25)
                .within("exactly 1: long with 100, a band with 101", longStep(100, 1, 7, 4, 8, 20, 10), 4)
                .beyond("exactly 1: a band with 101 and with 102", longStep(101, 1, 7, 4, 8, 20, 10), 0)
                .within("less than 1: long with 100, a band with 101", longStep(100, 2, 15, 10, 16, 20, 17), 4)
                .beyond("more than 1: a band with 100 and with 101", longStep(100, 3, 15, 17, 9, 17, 10), 0)
                .within("more than 1: long with 99, a band with 100", longStep(99, 3, 15, 17, 9, 17, 10), 4);
    }

    /** 1 / S is 99248769, 102000625, 1000265.9 and 999231.25; its root is 9962, 10099, 1000 and 999. */
    private static void tripleLimitsAtTheirEnds() {
        int[] below10000 = {2, 17, 18, 15, 19, 16};
        int[] above10000 = {2, 17, 19, 14, 20, 15};
        int[] above1000 = {7, 9, 10, 18, 19, 16};
        int[] below1000 = {1, 17, 3, 19, 10, 7};
        new Boundary("The fine limit F is 1 to 1000", 25)
                .within("F = 1000: 999231.25 is fine", Planners.limited(1000, 10000, below1000).tripleBands(0, 1, 2), 0)
                .beyond("F = 999: 999231.25 is a band", Planners.limited(999, 10000, below1000).tripleBands(0, 1, 2), 4)
                .beyond("F = 1000: 1000265.9 is a band", Planners.limited(1000, 10000, above1000).tripleBands(0, 1, 2), 4);
        new Boundary("the long limit L is greater than F and at most 10000", 25)
                .within("L = 10000: 102000625 is long", Planners.limited(1000, 10000, above10000).tripleBands(0, 1, 2), 0)
                .beyond("L = 10000: 99248769 is a band", Planners.limited(1000, 10000, below10000).tripleBands(0, 1, 2), 4)
                .beyond("L = 9963: 99248769 is a band", Planners.limited(1000, 9963, below10000).tripleBands(0, 1, 2), 4)
                .within("L = 9962: 99248769 is long", Planners.limited(1000, 9962, below10000).tripleBands(0, 1, 2), 0)
                .beyond("L = F + 1: 1000265.9 is a band", Planners.limited(1000, 1001, above1000).tripleBands(0, 1, 2), 4);
    }

    /** A pair of equal plates has 16 bands, a triple 36. */
    private static void allBands() {
        PlateBeats x = oneHundredth(4);
        Boundary b = new Boundary("The bands of all plates are those of all pairs and of all triples of plates.", 26)
                .beyond("no plates: no pair", oneHundredth(0).allBands(), 0)
                .beyond("1 plate: no pair", oneHundredth(1).allBands(), 0)
                .within("2 plates: 1 pair, no triple", oneHundredth(2).allBands(), 16)
                .within("3 plates: 3 pairs, 1 triple", oneHundredth(3).allBands(), 3 * 16 + 36)
                .within("4 plates: 6 pairs, 4 triples", x.allBands(), 6 * 16 + 4 * 36);
        x.removePlate(3);
        b.within("3 plates are left", x.allBands(), 3 * 16 + 36);
        x.removePlate(0);
        b.within("2 plates are left", x.allBands(), 16);
        x.removePlate(1);
        b.beyond("1 plate is left", x.allBands(), 0);
    }

    /** The square 2 / 200 is the only one that can be a band with these limits. */
    private static void noBands() {
        new Boundary("Returns a number whose bit i is 1 if the plate i is one of them; NONE if there are no bands.", 27)
                .within("no plates", Planners.equal(0).worstPlates(), NONE)
                .within("1 plate", Planners.equal(1).worstPlates(), NONE)
                .within("2 plates, all fine", Planners.equal(2).worstPlates(), NONE)
                .within("2 plates, the last is fine", Planners.limited(10, 11, 1, 3, 2, 4).worstPlates(), NONE)
                .within("2 plates, the last is long", Planners.limited(9, 10, 1, 3, 2, 4).worstPlates(), NONE)
                .beyond("2 plates, the last is a band", Planners.limited(9, 11, 1, 3, 2, 4).worstPlates(), 3)
                .within("4 plates, all fine", Planners.equal(4).worstPlates(), NONE)
                .beyond("4 plates with bands", oneHundredth(4).worstPlates(), 3)
                .beyond("3 plates, bands of the triple alone", Planners.limited(6, 7, 20, 0, 20, 0, 20, 0).worstPlates(), 7);
    }

    private static void noWorstPeriod() {
        new Boundary("Returns the period of the worst band; NONE if there are no bands.", 28)
                .within("no plates", Planners.equal(0).worstPeriod(), NONE)
                .within("1 plate", Planners.equal(1).worstPeriod(), NONE)
                .within("2 plates, all fine", Planners.equal(2).worstPeriod(), NONE)
                .within("2 plates, the last is fine", Planners.limited(10, 11, 1, 3, 2, 4).worstPeriod(), NONE)
                .within("2 plates, the last is long", Planners.limited(9, 10, 1, 3, 2, 4).worstPeriod(), NONE)
                .beyond("2 plates, the last is a band", Planners.limited(9, 11, 1, 3, 2, 4).worstPeriod(), 10)
                .within("4 plates, all fine", Planners.equal(4).worstPeriod(), NONE)
                .beyond("4 plates with bands", oneHundredth(4).worstPeriod(), 10)
                .beyond("3 plates, bands of the triple alone", Planners.limited(6, 7, 20, 0, 20, 0, 20, 0).worstPeriod(), 6);
    }

    /** The plates of a pair or triple are (20, 0), the others (1, 0): 9 / 400 is a band of triples, then 1 / 400 is one. */
    private static void worstBits() {
        Boundary b = new Boundary("Returns a number whose bit i is 1 if the plate i is one of them", 27);
        for (int plates = 0; plates < 16; plates++) {
            PlateBeats x = Planners.limited(6, 7, 1, 0, 1, 0, 1, 0, 1, 0);
            for (int plate = 0; plate < 4; plate++) {
                if ((plates >> plate & 1) == 1) {
                    x.setScreen(plate, 20, 0);
                }
            }
            if (Integer.bitCount(plates) == 3) {
                b.within("a triple", x.worstPlates(), plates);
            }
            if (Integer.bitCount(plates) < 2) {
                b.beyond("none", x.worstPlates(), NONE);
            }
            x.setLimits(19, 21);
            if (Integer.bitCount(plates) == 2) {
                b.within("a pair", x.worstPlates(), plates);
            }
        }
    }

    private static PlateBeats ofRow(int[] row) {
        return Planners.limited(row[FINE], row[FINE + 1], java.util.Arrays.copyOf(row, FINE));
    }

    /** In each row two neighbours in the order have the greatest period; then the second one's is greater by 1. */
    private static void severalWorst() {
        int[][] equal = {
            {1, 4, 4, 4, 4, 4, 1, 2, 7, 16, 3, 7}, {4, 1, 3, 0, 4, 3, 4, 3, 5, 13, 5, 10},
            {6, 4, 1, 6, 5, 7, 7, 1, 6, 13, 9, 12}, {7, 1, 8, 2, 1, 7, 1, 7, 3, 21, 6, 18},
            {5, 0, 5, 1, 5, 1, 5, 4, 9, 14, 10, 10}, {4, 5, 4, 5, 2, 2, 2, 2, 4, 20, 7, 18},
            {6, 7, 6, 5, 6, 5, 11, 2, 9, 20, 11, 16}, {6, 1, 6, 1, 5, 2, 2, 2, 1, 15, 13, 9}};
        int[][] greater = {
            {1, 8, 9, 2, 12, 1, 2, 1, 7, 16, 5, 15}, {5, 8, 1, 1, 8, 8, 5, 8, 6, 11, 9, 9},
            {1, 4, 5, 3, 5, 7, 3, 2, 10, 22, 6, 15}, {2, 4, 1, 5, 2, 4, 5, 2, 8, 13, 10, 12},
            {2, 5, 5, 9, 7, 9, 10, 5, 9, 25, 12, 20}, {5, 8, 1, 3, 1, 4, 5, 8, 1, 9, 11, 8},
            {3, 0, 6, 9, 10, 6, 3, 0, 6, 16, 13, 11}, {6, 7, 7, 4, 10, 6, 2, 9, 7, 21, 14, 20}};
        Boundary b = new Boundary("of several the first one in the following order: those of pairs come before those of triples; "
                + "pairs and triples are ordered by their first plate, then by the second one, then by the third one.", 27, 28);
        for (int[] row : equal) {
            b.within("plates of two equal ones", ofRow(row).worstPlates(), row[PLATES]);
            b.within("period of two equal ones", ofRow(row).worstPeriod(), row[PERIOD]);
        }
        for (int[] row : greater) {
            b.beyond("plates of one that is greater by 1", ofRow(row).worstPlates(), row[PLATES]);
            b.beyond("period of one that is greater by 1", ofRow(row).worstPeriod(), row[PERIOD]);
        }
        b.within("all of four equal plates", oneHundredth(4).worstPlates(), 3);
        b.within("the triples of four equal plates", Planners.limited(6, 7, 20, 0, 20, 0, 20, 0, 20, 0).worstPlates(), 7);
    }

    private static void pairsBeforeTriples() {
        PlateBeats equal = Planners.limited(8, 14, 2, 5, 1, 7, 6, 0, 2, 6);
        PlateBeats greater = Planners.limited(3, 12, 1, 8, 5, 6, 5, 0, 3, 5);
        new Boundary("those of pairs come before those of triples", 27, 28)
                .within("the last pair and the first triple, 13 both", equal.worstPlates(), 12)
                .within("13", equal.worstPeriod(), 13)
                .within("(10, 0) three times, 10 both", oneHundredth(3).worstPlates(), 3)
                .beyond("9 of pairs, 10 of the first triple", greater.worstPlates(), 7)
                .beyond("10", greater.worstPeriod(), 10);
    }

    private static void greatestPeriod() {
        int[] pq = {5, 5, 7, 2, 2, 7};
        new Boundary("The worst band is the one with the greatest period", 27, 28)
                .within("a triple with 124, pairs with 14", Planners.of(pq).worstPlates(), 7)
                .within("124", Planners.of(pq).worstPeriod(), 124)
                .within("L = 125", Planners.limited(10, 125, pq).worstPeriod(), 124)
                .beyond("L = 124: it is long", Planners.limited(10, 124, pq).worstPeriod(), 14)
                .beyond("L = 124: a pair", Planners.limited(10, 124, pq).worstPlates(), 3);
    }

    /** A band's 1 / S is greater than F * F and smaller than L * L. */
    private static void worstPeriodLimits() {
        new Boundary("Square and period are as for two plates.", 28)
                .within("the longest one", Planners.limited(1000, 10000, 2, 17, 18, 15, 19, 16).worstPeriod(), 9962)
                .beyond("longer: long", Planners.limited(1000, 10000, 2, 17, 19, 14, 20, 15).worstPeriod(), NONE)
                .within("the shortest one", Planners.limited(1, 2, 1, 0, 1, 20).worstPeriod(), 1)
                .beyond("shorter: fine", Planners.limited(1, 2, 1, 0, 1, 0).worstPeriod(), NONE)
                .within("F is its period", Planners.limited(780, 10000, 20, 20, 20, 19).worstPeriod(), 780)
                .beyond("F is greater", Planners.limited(781, 10000, 20, 20, 20, 19).worstPeriod(), NONE)
                .within("L is greater", Planners.limited(1, 781, 20, 20, 20, 19).worstPeriod(), 780);
    }

    private static void worstPairPlates() {
        PlateBeats x = new PlateBeats();
        Boundary b = new Boundary("NONE if there are less than two plates", 29).within("no plates", x.worstPair(), NONE);
        x.addPlate(1, 0);
        b.within("1 plate", x.worstPair(), NONE);
        x.addPlate(1, 0);
        b.beyond("2 plates", x.worstPair(), 1);
        x.removePlate(0);
        b.within("1 plate again", x.worstPair(), NONE);
        x.undo();
        b.beyond("2 plates again", x.worstPair(), 1);
    }

    private static void worstPairWithoutBands() {
        Boundary b = new Boundary("(also if no pair has any)", 29);
        for (int count = 2; count <= 4; count++) {
            b.within("all fine", Planners.equal(count).worstPair(), 1);
        }
        b.within("bands of triples alone", Planners.limited(6, 7, 1, 0, 20, 0, 20, 0, 20, 0).worstPair(), 1);
        b.beyond("one pair has some", Planners.limited(9, 11, 1, 0, 1, 0, 10, 0, 10, 0).worstPair(), 23);
    }

    /** In each row two neighbours in the order have most bands; then the second one has 4 more. The due pair stands last. */
    private static void worstPairs() {
        int[][] equal = {
            {1, 5, 3, 3, 3, 3, 1, 4, 5, 7, 1}, {4, 1, 3, 0, 4, 3, 4, 3, 5, 13, 2}, {6, 8, 7, 6, 7, 6, 6, 8, 1, 12, 3},
            {7, 1, 8, 2, 1, 7, 1, 7, 3, 21, 12}, {4, 0, 3, 4, 6, 4, 8, 3, 4, 8, 13}};
        int[][] more = {
            {7, 3, 3, 3, 8, 2, 2, 4, 4, 11, 2}, {3, 5, 3, 4, 7, 8, 6, 0, 10, 16, 3}, {9, 1, 6, 10, 6, 10, 10, 2, 7, 13, 12},
            {12, 4, 10, 3, 12, 0, 10, 3, 3, 8, 13}, {2, 0, 2, 1, 3, 0, 3, 0, 2, 18, 23}};
        Boundary b = new Boundary("of several the first one by the first plate, then by the second one", 29);
        for (int[] row : equal) {
            b.within("two pairs with most", ofRow(row).worstPair(), row[PLATES]);
        }
        for (int[] row : more) {
            b.beyond("the second one has 4 more", ofRow(row).worstPair(), row[PLATES]);
        }
        b.within("all of four equal plates", oneHundredth(4).worstPair(), 1);
    }
}
