/**
 * Long runs of calls, each answer compared with the reference's. The numbers come from a fixed row, not from chance. No run
 * has more calls than the document promises answers for.
 */
final class RandomRunsTest {
    private static final int RUNS = 80;
    private static final int CALLS = 512;
    private static final int CALLS_OF_ACT = 10;
    private static final int MOST_CALLS_OF_ASK = 3;
    private static final int METHODS = 34;
    private static long row;

    private RandomRunsTest() {
    }

    static void run() {
        for (int run = 0; run < RUNS; run++) {
            row = 977L * run + 1;
            oneRun(run);
        }
    }

    private static int next(int low, int high) {
        row = row * 6364136223846793005L + 1442695040888963407L;
        return low + (int) ((row >>> 33) % Math.max(1, high - low + 1));
    }

    private static void oneRun(int run) {
        PlateBeats x = new PlateBeats();
        Reference y = new Reference();
        int side = run % 3 == 0 ? 20 : run % 3 == 1 ? 9 : 4;
        int calls = 0;
        for (int k = next(1, 4); k > 0; k--) {
            act(run, x, y, 0, side);
            calls += CALLS_OF_ACT;
        }
        while (calls + CALLS_OF_ACT <= CALLS) {
            int method = next(0, METHODS - 1);
            calls += method < 10 ? CALLS_OF_ACT : MOST_CALLS_OF_ASK;
            if (method < 10) {
                act(run, x, y, method, side);
            } else if (method < 22) {
                askPair(run, x, y, method);
            } else {
                askAll(run, x, y, method, side);
            }
        }
    }

    private static void act(int run, PlateBeats x, Reference y, int method, int side) {
        int plate = next(-1, y.plateCount());
        int p = next(0, 30) == 0 ? next(-1, 22) : next(1, side);
        int q = next(0, 30) == 0 ? next(-2, 22) : next(0, side);
        int fine = next(0, 9) == 0 ? next(-1, 1002) : next(1, 15);
        int longLimit = next(0, 9) == 0 ? next(-1, 10002) : next(fine, fine + 60);
        String at = "run " + run + ": ";
        switch (method) {
            case 0, 1 -> Check.due(at + "addPlate", x.addPlate(p, q), y.addPlate(p, q));
            case 2, 3 -> Check.due(at + "setScreen", x.setScreen(plate, p, q), y.setScreen(plate, p, q));
            case 4 -> Check.due(at + "removePlate", x.removePlate(plate), y.removePlate(plate));
            case 5 -> Check.due(at + "setOrder", x.setOrder(p), y.setOrder(p));
            case 6 -> Check.due(at + "setLimits", x.setLimits(fine, longLimit), y.setLimits(fine, longLimit));
            case 7 -> Check.due(at + "save", x.save(plate), y.save(plate));
            case 8 -> Check.due(at + "restore", x.restore(plate), y.restore(plate));
            default -> Check.due(at + "undo", x.undo(), y.undo());
        }
        Check.due(at + "historySize", x.historySize(), y.historySize());
        Check.due(at + "plateCount", x.plateCount(), y.plateCount());
        Check.due(at + "longLimit", x.longLimit(), y.longLimit());
        Check.due(at + "commonTile", x.commonTile(), y.commonTile());
        int k = next(0, 9) == 0 ? next(-1, 4) : next(0, Math.max(0, y.plateCount() - 1));
        Check.due(at + "cellP", x.cellP(k), y.cellP(k));
        Check.due(at + "cellQ", x.cellQ(k), y.cellQ(k));
        Check.due(at + "cellArea", x.cellArea(k), y.cellArea(k));
        Check.due(at + "tile", x.tile(k), y.tile(k));
        Check.due(at + "byAngle", x.byAngle(k), y.byAngle(k));
    }

    private static void askPair(int run, PlateBeats x, Reference y, int method) {
        int i = next(0, 9) == 0 ? next(-1, 4) : next(0, 2);
        int j = next(0, 9) == 0 ? next(-1, 4) : next(i, 3);
        int rank = next(0, 9) == 0 ? next(-2, 200) : next(0, 60);
        int a = next(-2, 2);
        int b = next(-1, 1);
        int c = next(-1, 1);
        int d = next(-3, 3);
        String at = "run " + run + ": " + i + ", " + j + ": ";
        switch (method) {
            case 10, 11, 12, 13 -> {
                Check.due(at + "kind", x.kind(i, j, a, b, c, d), y.kind(i, j, a, b, c, d));
                Check.due(at + "squareNumerator", x.squareNumerator(i, j, a, b, c, d), y.squareNumerator(i, j, a, b, c, d));
                Check.due(at + "squareDenominator", x.squareDenominator(i, j, a, b, c, d),
                        y.squareDenominator(i, j, a, b, c, d));
            }
            case 14 -> Check.due(at + "beatCount", x.beatCount(i, j), y.beatCount(i, j));
            case 15 -> Check.due(at + "beatNumerator", x.beatNumerator(i, j, rank), y.beatNumerator(i, j, rank));
            case 16 -> Check.due(at + "beatDenominator", x.beatDenominator(i, j, rank), y.beatDenominator(i, j, rank));
            case 17 -> Check.due(at + "beatFrequency", x.beatFrequency(i, j, rank), y.beatFrequency(i, j, rank));
            case 18, 19 -> Check.due(at + "beatPeriod", x.beatPeriod(i, j, rank), y.beatPeriod(i, j, rank));
            case 20 -> Check.due(at + "locked", x.locked(i, j), y.locked(i, j));
            default -> Check.due(at + "bands", x.bands(i, j), y.bands(i, j));
        }
    }

    private static void askAll(int run, PlateBeats x, Reference y, int method, int side) {
        int i = next(0, 9) == 0 ? next(-1, 4) : next(0, 1);
        int j = next(0, 9) == 0 ? next(-1, 4) : next(i, 2);
        int k = next(0, 9) == 0 ? next(-1, 5) : next(j, 3);
        String at = "run " + run + ": ";
        switch (method) {
            case 22, 23 -> Check.due(at + "tripleBands", x.tripleBands(i, j, k), y.tripleBands(i, j, k));
            case 24, 25 -> Check.due(at + "allBands", x.allBands(), y.allBands());
            case 26, 27 -> Check.due(at + "worstPlates", x.worstPlates(), y.worstPlates());
            case 28, 29 -> Check.due(at + "worstPeriod", x.worstPeriod(), y.worstPeriod());
            case 30, 31 -> Check.due(at + "worstPair", x.worstPair(), y.worstPair());
            case 32 -> askSearch(at, x, y, side);
            default -> Check.due(at + "historySize", x.historySize(), y.historySize());
        }
    }

    /** Narrow ranges: the reference is slow. */
    private static void askSearch(String at, PlateBeats x, Reference y, int side) {
        int plate = next(-1, y.plateCount());
        int low = next(0, 2 * side * side);
        int high = Math.min(next(low - 1, low + side), side * side > 300 ? 801 : 800);
        int[] due = y.best(plate, low, high);
        String call = plate + ", " + low + ", " + high;
        Check.due(at + "bestScreen " + call, x.bestScreen(plate, low, high), due[0]);
        Check.due(at + "bandsWithBest " + call, x.bandsWithBest(plate, low, high), due[1]);
    }
}
