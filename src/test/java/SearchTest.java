/** Promises 30 and 31: the search. */
final class SearchTest {
    private static final int BAD = PlateBeats.INVALID_ARGUMENT;

    private SearchTest() {
    }

    static void run() {
        onePlate();
        badRanges();
        fewestBands();
        smallerQ();
        sameAsTrying();
        widestRange();
    }

    private static void best(PlateBeats x, int plate, int low, int high, int screen, int bands) {
        String what = plate + ", " + low + ", " + high;
        Check.due("30: " + what, x.bestScreen(plate, low, high), screen);
        Check.due("31: " + what, x.bandsWithBest(plate, low, high), bands);
    }

    /** One plate has no bands: the nearest area is best, then the smaller p. */
    private static void onePlate() {
        PlateBeats x = new PlateBeats();
        x.addPlate(5, 0);
        best(x, 0, 1, 800, 304, 0);
        best(x, 0, 25, 25, 304, 0);
        best(x, 0, 26, 800, 105, 0);
        best(x, 0, 1, 24, 204, 0);
        best(x, 0, 1, 1, 100, 0);
        best(x, 0, 800, 800, 2020, 0);
        best(x, 0, 761, 799, 1920, 0);
        best(x, 0, 3, 3, PlateBeats.NONE, PlateBeats.NONE);
        best(x, 0, 762, 799, PlateBeats.NONE, PlateBeats.NONE);
        Check.due("30: no action", x.historySize(), 1);
        Check.due("30: the plate stays", x.cellP(0), 5);
    }

    private static void badRanges() {
        PlateBeats x = new PlateBeats();
        best(x, 0, 1, 800, BAD, BAD);
        x.addPlate(5, 0);
        best(x, 1, 1, 800, BAD, BAD);
        best(x, -1, 1, 800, BAD, BAD);
        best(x, 0, 0, 800, BAD, BAD);
        best(x, 0, -5, -4, BAD, BAD);
        best(x, 0, 1, 801, BAD, BAD);
        best(x, 0, 801, 801, BAD, BAD);
        best(x, 0, 5, 4, BAD, BAD);
        best(x, 0, Integer.MIN_VALUE, Integer.MAX_VALUE, BAD, BAD);
        best(x, Integer.MAX_VALUE, 1, 800, BAD, BAD);
        best(x, 2, 3, 3, BAD, BAD);
    }

    private static void fewestBands() {
        PlateBeats x = new PlateBeats();
        x.addPlate(5, 5);
        x.addPlate(7, 2);
        x.addPlate(2, 7);
        x.addPlate(6, 0);
        x.setOrder(2);
        best(x, 3, 30, 60, 404, 196);
        Check.due("31: nothing is set", x.allBands(), 208);
        x.setScreen(3, 4, 4);
        Check.due("31: set", x.allBands(), 196);
    }

    /** (4, 0) and (4, 2) make no bands; the areas 16 and 20 are equally near to 18. */
    private static void smallerQ() {
        PlateBeats x = new PlateBeats();
        x.addPlate(3, 1);
        x.addPlate(3, 3);
        x.setLimits(4, 5);
        best(x, 1, 9, 27, 400, 0);
        best(x, 1, 17, 27, 402, 0);
    }

    private static void widestRange() {
        PlateBeats x = new PlateBeats();
        Reference y = new Reference();
        int[][] screens = {{9, 4}, {11, 3}};
        for (int[] screen : screens) {
            x.addPlate(screen[0], screen[1]);
            y.addPlate(screen[0], screen[1]);
        }
        for (int plate = 0; plate < 2; plate++) {
            int[] due = y.best(plate, 1, 800);
            best(x, plate, 1, 800, due[0], due[1]);
        }
        x.setLimits(20, 10000);
        y.setLimits(20, 10000);
        int[] due = y.best(0, 100, 800);
        best(x, 0, 100, 800, due[0], due[1]);
    }

    /** The best screen is found again by trying all of them with setScreen, each on a new object. */
    private static void sameAsTrying() {
        PlateBeats x = Planners.of(9, 4, 11, 3, 8, 8);
        for (int plate = 0; plate < 3; plate++) {
            int own = x.cellArea(plate);
            int found = x.bestScreen(plate, 60, 300);
            int bands = x.bandsWithBest(plate, 60, 300);
            long due = Long.MAX_VALUE;
            for (int p = 1; p <= 20; p++) {
                for (int q = 0; q <= 20; q++) {
                    if (p * p + q * q >= 60 && p * p + q * q <= 300) {
                        PlateBeats y = Planners.of(9, 4, 11, 3, 8, 8);
                        y.setScreen(plate, p, q);
                        long rank = (y.allBands() * 1000L + Math.abs(p * p + q * q - own)) * 10000 + 100 * p + q;
                        due = Math.min(due, rank);
                    }
                }
            }
            Check.due("30: tried", found, due % 10000);
            Check.due("31: tried", bands, due / 10000 / 1000);
        }
    }
}
