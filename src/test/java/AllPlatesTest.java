/** Promises 25 to 29: three plates and all plates. */
final class AllPlatesTest {
    private static final int BAD = PlateBeats.INVALID_ARGUMENT;

    private AllPlatesTest() {
    }

    static void run() {
        tripleBands();
        allBands();
        worstBand();
        worstTriple();
        narrowLimits();
        worstPair();
    }

    private static PlateBeats equalPlates(int count) {
        PlateBeats x = new PlateBeats();
        for (int k = 0; k < count; k++) {
            x.addPlate(10, 0);
        }
        x.setLimits(9, 11);
        return x;
    }

    /** Of three equal plates (10, 0), 36 combinations have the square 1/100, 24 have 5/100 and 4 have 9/100. */
    private static void tripleBands() {
        PlateBeats x = equalPlates(4);
        Check.due("25: 1/100", x.tripleBands(0, 1, 2), 36);
        Check.due("25: the last three", x.tripleBands(1, 2, 3), 36);
        x.setLimits(4, 10);
        Check.due("25: 5/100", x.tripleBands(0, 1, 3), 24);
        x.setLimits(3, 11);
        Check.due("25: all", x.tripleBands(0, 2, 3), 64);
        x.setOrder(2);
        Check.due("25: whatever the order is", x.tripleBands(0, 2, 3), 64);
        int[][] bad = {
            {0, 0, 1}, {0, 1, 1}, {1, 0, 2}, {0, 2, 1}, {2, 1, 0}, {-1, 0, 1}, {0, -1, 1}, {0, 1, -1}, {1, 2, 4},
            {2, 3, 4}, {0, 4, 5}, {0, 1, Integer.MAX_VALUE}, {Integer.MIN_VALUE, 0, 1}};
        for (int[] n : bad) {
            Check.due("25: bad", x.tripleBands(n[0], n[1], n[2]), BAD);
        }
        Check.due("25: only two", equalPlates(2).tripleBands(0, 1, 2), BAD);
    }

    private static void allBands() {
        int[] due = {0, 0, 16, 3 * 16 + 36, 6 * 16 + 4 * 36};
        for (int count = 0; count <= 4; count++) {
            Check.due("26: plates: " + count, equalPlates(count).allBands(), due[count]);
        }
    }

    private static void worstBand() {
        for (int count = 0; count <= 1; count++) {
            Check.due("27: plates: " + count, equalPlates(count).worstPlates(), PlateBeats.NONE);
            Check.due("28: plates: " + count, equalPlates(count).worstPeriod(), PlateBeats.NONE);
        }
        PlateBeats x = equalPlates(4);
        Check.due("27: the first pair of equal ones", x.worstPlates(), 3);
        Check.due("28: a whole root", x.worstPeriod(), 10);
        x.setLimits(7, 10);
        Check.due("28: rounded down", x.worstPeriod(), 7);
        x.setScreen(0, 1, 0);
        Check.due("27: the next pair", x.worstPlates(), 6);
        x.setScreen(1, 1, 0);
        Check.due("27: the last pair", x.worstPlates(), 12);
        x.setScreen(2, 1, 0);
        Check.due("27: all fine", x.worstPlates(), PlateBeats.NONE);
        Check.due("28: all fine", x.worstPeriod(), PlateBeats.NONE);
    }

    private static void worstTriple() {
        PlateBeats x = new PlateBeats();
        x.addPlate(5, 5);
        x.addPlate(7, 2);
        x.addPlate(2, 7);
        Check.due("27: a triple", x.worstPlates(), 7);
        Check.due("28: a triple", x.worstPeriod(), 124);
        x.setLimits(10, 124);
        Check.due("28: 124 is at most its period", x.worstPeriod(), 14);
        x.setLimits(10, 125);
        Check.due("28: 125 is more than its period", x.worstPeriod(), 124);
        x.setLimits(124, 125);
        Check.due("27: alone", x.worstPlates(), 7);
        PlateBeats y = equalPlates(3);
        y.setLimits(4, 5);
        Check.due("27: a pair before a triple", y.worstPlates(), 3);
        Check.due("28: both 4", y.worstPeriod(), 4);
    }

    private static PlateBeats narrow(int[] first, int[] second, int fine, int longLimit) {
        PlateBeats x = new PlateBeats();
        x.addPlate(first[0], first[1]);
        x.addPlate(second[0], second[1]);
        x.setLimits(fine, longLimit);
        return x;
    }

    private static void narrowLimits() {
        PlateBeats x = narrow(new int[] {5, 2}, new int[] {1, 3}, 17, 18);
        Check.due("26: 1/290 is just not fine", x.allBands(), 4);
        Check.due("28: 1/290", x.worstPeriod(), 17);
        PlateBeats y = narrow(new int[] {8, 0}, new int[] {6, 7}, 5, 6);
        Check.due("26: 197/5440 alone", y.allBands(), 4);
        Check.due("28: 197/5440", y.worstPeriod(), 5);
        PlateBeats z = narrow(new int[] {4, 3}, new int[] {3, 4}, 1, 2);
        Check.due("27: between 1/4 and 1", z.worstPlates(), 3);
        Check.due("28: the smallest period", z.worstPeriod(), 1);
    }

    private static void worstPair() {
        Check.due("29: no plates", equalPlates(0).worstPair(), PlateBeats.NONE);
        Check.due("29: one plate", equalPlates(1).worstPair(), PlateBeats.NONE);
        PlateBeats x = equalPlates(4);
        Check.due("29: the first of equal ones", x.worstPair(), 1);
        x.setScreen(0, 1, 0);
        Check.due("29: the next one", x.worstPair(), 12);
        x.setScreen(1, 1, 0);
        Check.due("29: the last one", x.worstPair(), 23);
        x.setScreen(2, 1, 0);
        Check.due("29: without bands", x.worstPair(), 1);
        Check.due("24: without bands", x.bands(2, 3), 0);
        Check.due("26: of triples alone", x.allBands(), 48);
    }
}
