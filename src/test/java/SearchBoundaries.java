/** Boundaries of promises 30 and 31: the search. */
final class SearchBoundaries {
    private static final int BAD = PlateBeats.INVALID_ARGUMENT;
    private static final int NONE = PlateBeats.NONE;
    private static final int LEAST = Integer.MIN_VALUE;
    private static final int GREATEST = Integer.MAX_VALUE;

    private interface Call {
        long ask(PlateBeats x, int plate, int low, int high);
    }

    private SearchBoundaries() {
    }

    static void run() {
        plates(30, PlateBeats::bestScreen, 100);
        plates(31, PlateBeats::bandsWithBest, 0);
        low(30, PlateBeats::bestScreen, 100, 2020);
        low(31, PlateBeats::bandsWithBest, 0, 0);
        high(30, PlateBeats::bestScreen, 304, 2020);
        high(31, PlateBeats::bandsWithBest, 0, 0);
        noSuchArea();
        noBandsWithNone();
        areaInRange();
        fewest();
        nearest();
        presentArea();
        smallerP();
        smallerQ();
        bandsOfTheBest();
        nothingIsSet();
    }

    /** One plate has no bands, whatever its screen is. */
    private static PlateBeats alone(int p, int q) {
        return Planners.of(p, q);
    }

    private static void plates(int promise, Call call, long due) {
        Boundary b = new Boundary("INVALID_ARGUMENT if there is no such plate or another argument is out of range", promise);
        for (int count = 0; count <= 4; count++) {
            PlateBeats x = Planners.limited(1, 2, new int[0]);
            for (int k = 0; k < count; k++) {
                x.addPlate(1, 0);
            }
            for (int plate = 0; plate < count; plate++) {
                b.beyond(plate + " of " + count, call.ask(x, plate, 1, 1), due);
            }
            for (int plate : new int[] {LEAST, -1, count, count + 1, 31, 32, GREATEST}) {
                b.within(plate + " of " + count, call.ask(x, plate, 1, 1), BAD);
            }
        }
    }

    private static void low(int promise, Call call, long smallest, long greatest) {
        new Boundary("- `low`: 1 to 800", promise)
                .beyond("least int", call.ask(alone(5, 0), 0, LEAST, 1), BAD)
                .beyond("-1", call.ask(alone(5, 0), 0, -1, 1), BAD)
                .beyond("0", call.ask(alone(5, 0), 0, 0, 1), BAD)
                .beyond("0 and 0", call.ask(alone(5, 0), 0, 0, 0), BAD)
                .within("1", call.ask(alone(5, 0), 0, 1, 1), smallest)
                .within("800", call.ask(alone(5, 0), 0, 800, 800), greatest)
                .beyond("801", call.ask(alone(5, 0), 0, 801, 801), BAD)
                .beyond("801 and 800", call.ask(alone(5, 0), 0, 801, 800), BAD)
                .beyond("greatest int", call.ask(alone(5, 0), 0, GREATEST, GREATEST), BAD);
    }

    private static void high(int promise, Call call, long of25, long greatest) {
        new Boundary("- `high`: low to 800", promise)
                .beyond("least int", call.ask(alone(5, 0), 0, 25, LEAST), BAD)
                .beyond("0", call.ask(alone(5, 0), 0, 25, 0), BAD)
                .beyond("low - 1", call.ask(alone(5, 0), 0, 25, 24), BAD)
                .within("low", call.ask(alone(5, 0), 0, 25, 25), of25)
                .within("low + 1", call.ask(alone(5, 0), 0, 25, 26), of25)
                .within("800", call.ask(alone(20, 20), 0, 1, 800), greatest)
                .beyond("801", call.ask(alone(20, 20), 0, 1, 801), BAD)
                .beyond("greatest int", call.ask(alone(20, 20), 0, 1, GREATEST), BAD);
    }

    /** 1, 2, 4 and 5 are sums of two squares, 3 is none; 441 is 21 * 21 alone, 401 is 20 * 20 + 1. */
    private static void noSuchArea() {
        new Boundary("NONE if no cell vector has such an area", 30)
                .beyond("2", alone(5, 0).bestScreen(0, 2, 2), 101)
                .within("3", alone(5, 0).bestScreen(0, 3, 3), NONE)
                .beyond("4", alone(5, 0).bestScreen(0, 4, 4), 200)
                .beyond("2 to 3", alone(5, 0).bestScreen(0, 2, 3), 101)
                .beyond("3 to 4", alone(5, 0).bestScreen(0, 3, 4), 200)
                .within("6 to 7", alone(5, 0).bestScreen(0, 6, 7), NONE)
                .beyond("400", alone(5, 0).bestScreen(0, 400, 400), 1216)
                .beyond("401", alone(5, 0).bestScreen(0, 401, 401), 120)
                .within("441 is of p = 21 alone", alone(5, 0).bestScreen(0, 441, 441), NONE)
                .beyond("442", alone(5, 0).bestScreen(0, 442, 442), 919)
                .beyond("761", alone(5, 0).bestScreen(0, 761, 761), 1920)
                .within("762 to 799", alone(5, 0).bestScreen(0, 762, 799), NONE)
                .beyond("762 to 800", alone(5, 0).bestScreen(0, 762, 800), 2020)
                .beyond("761 to 799", alone(5, 0).bestScreen(0, 761, 799), 1920);
    }

    private static void noBandsWithNone() {
        PlateBeats x = Planners.limited(9, 11, 10, 0, 10, 0);
        new Boundary("NONE if no cell vector has such an area", 31)
                .within("3", x.bandsWithBest(1, 3, 3), NONE)
                .beyond("4", x.bandsWithBest(1, 4, 4), 0)
                .within("441", x.bandsWithBest(1, 441, 441), NONE)
                .within("762 to 799", x.bandsWithBest(0, 762, 799), NONE)
                .beyond("762 to 800: (20, 20), four times 18 / 1600", x.bandsWithBest(0, 762, 800), 4);
    }

    private static void areaInRange() {
        new Boundary("The best screen for a plate, with areas from low to high, is a cell vector whose area is in this range.", 30)
                .within("its own one is", alone(5, 1).bestScreen(0, 26, 26), 105)
                .within("its own one is the lowest", alone(5, 0).bestScreen(0, 25, 800), 304)
                .beyond("its own one is too low", alone(5, 0).bestScreen(0, 26, 800), 105)
                .within("its own one is the highest", alone(5, 0).bestScreen(0, 1, 25), 304)
                .beyond("its own one is too high", alone(5, 0).bestScreen(0, 1, 24), 204);
    }

    /** Of its own area 5, (1, 2) and (2, 1) make 8 bands; (2, 0), whose area is 4, makes 4. */
    private static void fewest() {
        PlateBeats x = Planners.limited(3, 7, 5, 4, 2, 1);
        PlateBeats y = Planners.limited(9, 11, 10, 0, 10, 0);
        new Boundary("It is the one with which the plate, in place of its own one, makes the bands of all plates fewest", 30, 31)
                .within("4 bands with area 4, 8 with area 5: screen", x.bestScreen(1, 3, 9), 200)
                .within("4 bands with area 4, 8 with area 5: bands", x.bandsWithBest(1, 3, 9), 4)
                .beyond("without it: screen", x.bestScreen(1, 5, 9), 102)
                .beyond("without it: bands", x.bandsWithBest(1, 5, 9), 8)
                .beyond("16 bands with its own one", y.allBands(), 16)
                .within("none with another one", y.bandsWithBest(1, 1, 800), 0);
    }

    /** Equally few bands: area 4 against 5 of own area 4; 9 against 8 of 9; 32 against 37 of 34; 9 against 8 of 10. */
    private static void nearest() {
        PlateBeats a = Planners.limited(4, 9, 2, 0, 3, 0);
        PlateBeats b = Planners.limited(2, 3, 3, 0, 3, 0);
        PlateBeats c = Planners.limited(5, 8, 2, 4, 3, 5);
        PlateBeats d = Planners.limited(5, 9, 1, 3, 7, 0);
        new Boundary("of several the one whose area is nearest to the present area of the plate", 30)
                .within("0 and 1 more", a.bestScreen(0, 3, 6), 200)
                .beyond("1 more alone", a.bestScreen(0, 5, 6), 102)
                .within("0 and 1 less", b.bestScreen(0, 8, 10), 300)
                .beyond("1 less alone", b.bestScreen(0, 8, 8), 202)
                .within("2 less and 3 more", c.bestScreen(1, 27, 42), 404)
                .beyond("3 more alone", c.bestScreen(1, 33, 42), 106)
                .within("1 less and 2 less", d.bestScreen(0, 7, 20), 300)
                .beyond("2 less alone", d.bestScreen(0, 7, 8), 202);
    }

    private static void presentArea() {
        PlateBeats x = alone(5, 0);
        Boundary b = new Boundary("nearest to the present area of the plate", 30)
                .within("25", x.bestScreen(0, 1, 800), 304)
                .within("too low", x.bestScreen(0, 50, 800), 107);
        x.setScreen(0, 8, 8);
        b.beyond("128 now", x.bestScreen(0, 1, 800), 808).beyond("too high", x.bestScreen(0, 1, 26), 105);
        x.undo();
        b.within("25 again", x.bestScreen(0, 1, 800), 304);
    }

    /** Equally few bands, equally near: both of area 5; 20 and 16; 37 and 45; 10 and 16. */
    private static void smallerP() {
        PlateBeats a = Planners.limited(3, 7, 2, 0, 3, 3);
        PlateBeats b = Planners.limited(4, 8, 3, 3, 3, 3);
        PlateBeats c = Planners.limited(8, 14, 7, 7, 4, 5);
        PlateBeats d = Planners.limited(3, 6, 2, 3, 3, 2);
        new Boundary("then the one with the smaller p", 30)
                .within("the same area", a.bestScreen(0, 5, 13), 102)
                .within("2 more before 2 less", b.bestScreen(1, 9, 24), 204)
                .beyond("2 less alone", b.bestScreen(1, 9, 19), 400)
                .within("4 less before 4 more", c.bestScreen(1, 32, 51), 106)
                .beyond("4 more alone", c.bestScreen(1, 38, 51), 306)
                .within("3 less before 3 more", d.bestScreen(0, 8, 25), 301)
                .beyond("3 more alone", d.bestScreen(0, 11, 25), 400)
                .within("one plate, 304, 403 and 500", alone(5, 0).bestScreen(0, 25, 25), 304)
                .within("one plate, 105 and 501", alone(5, 1).bestScreen(0, 26, 26), 105);
    }

    /** Equally few bands, equally near, the same p: 16 and 20 about 18, once without bands and once with 8; 37 and 45 about 41. */
    private static void smallerQ() {
        PlateBeats a = Planners.limited(4, 5, 3, 1, 3, 3);
        PlateBeats b = Planners.limited(4, 10, 3, 3, 4, 1);
        PlateBeats c = Planners.limited(4, 9, 8, 3, 4, 5);
        new Boundary("then the one with the smaller q", 30)
                .within("(4, 0) before (4, 2)", a.bestScreen(1, 9, 27), 400)
                .beyond("(4, 2) alone", a.bestScreen(1, 17, 27), 402)
                .within("(4, 0) before (4, 2), with bands", b.bestScreen(0, 15, 21), 400)
                .beyond("(4, 2) alone, with bands", b.bestScreen(0, 17, 21), 402)
                .within("(6, 1) before (6, 3)", c.bestScreen(1, 35, 50), 601)
                .beyond("(6, 3) alone", c.bestScreen(1, 38, 50), 603);
    }

    private static void bandsOfTheBest() {
        PlateBeats x = Planners.limitedAtOrder2(10, 500, 5, 5, 7, 2, 2, 7, 6, 0);
        Boundary b = new Boundary("Returns the number of the bands of all plates with the best screen for a plate.", 31)
                .within("found", x.bandsWithBest(3, 30, 60), 196)
                .beyond("the present ones", x.allBands(), 208);
        x.setScreen(3, 4, 4);
        b.within("the present ones with it", x.allBands(), 196).within("found again", x.bandsWithBest(3, 30, 60), 196);
        b.within("one plate", alone(5, 0).bandsWithBest(0, 1, 800), 0);
    }

    private static void nothingIsSet() {
        PlateBeats x = Planners.limited(3, 7, 5, 4, 2, 1);
        Boundary b = new Boundary("Nothing is promised beyond the answers and state changes described above", 30, 31)
                .within("history before", x.historySize(), 3)
                .within("best", x.bestScreen(1, 3, 9), 200)
                .within("bands with it", x.bandsWithBest(1, 3, 9), 4)
                .within("p stays", x.cellP(1), 2)
                .within("q stays", x.cellQ(1), 1)
                .within("history stays", x.historySize(), 3);
        x.setScreen(1, 2, 0);
        b.beyond("p is set", x.cellP(1), 2).beyond("q is set", x.cellQ(1), 0).beyond("history", x.historySize(), 4);
    }
}
