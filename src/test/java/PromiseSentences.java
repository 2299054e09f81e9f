import java.util.Arrays;

/** The sentences of the promises' own sections that name no boundary. The dues are worked out by hand. */
final class PromiseSentences {
    private static final int BAD = PlateBeats.INVALID_ARGUMENT;
    private static final int STATE = PlateBeats.ILLEGAL_STATE;
    private static final int FULL = PlateBeats.CAPACITY_EXCEEDED;
    private static final int NONE = PlateBeats.NONE;

    /**
     * The different squares of (15, 5) and (5, 0) at order 1, as numerator, denominator, frequency and period. Of (15, 5),
     * u = (3 / 50, 1 / 50), u + v = (2 / 50, 4 / 50); of (5, 0), u = (1 / 5, 0). The squares are 4, 5, 8, 9, 10, 13, 16, 17,
     * 18, 20, 25, 26, 29 and 34 of 250.
     */
    private static final int[][] SQUARES = {
        {2, 125, 4, 7}, {1, 50, 4, 7}, {4, 125, 4, 5}, {9, 250, 4, 5}, {1, 25, 4, 5}, {13, 250, 8, 4}, {8, 125, 4, 3},
        {17, 250, 8, 3}, {9, 125, 4, 3}, {2, 25, 4, 3}, {1, 10, 4, 3}, {13, 125, 4, 3}, {29, 250, 4, 2}, {17, 125, 4, 2}};

    private interface Combination {
        long ask(PlateBeats x, int i, int j, int a, int b, int c, int d);
    }

    private interface Plate {
        long ask(PlateBeats x, int plate);
    }

    private interface Pair {
        long ask(PlateBeats x, int i, int j);
    }

    private interface Rank {
        long ask(PlateBeats x, int rank);
    }

    private PromiseSentences() {
    }

    static void run() {
        addPlate();
        plateArguments();
        commonTile();
        byAngle();
        setOrder();
        setLimits();
        longLimit();
        combination(15, "Returns the numerator of the square of a combination.", "Returns the numerator;",
                PlateBeats::squareNumerator, 17);
        combination(16, "Returns the denominator of the square of a combination.", "Returns the denominator;",
                PlateBeats::squareDenominator, 250);
        combination(17, "Returns the kind of a combination.", "Returns its kind, 0 to 3;", PlateBeats::kind, 3);
        kinds();
        pairArguments();
        ranks();
        ofThisSquare();
        triple();
        allBands();
        worstPlates();
        worstPair();
        bestScreen();
        bandsWithBest();
        save();
        restore();
    }

    /** (15, 5) and (5, 0), whose squares stand above, with limits. */
    private static PlateBeats known(int fine, int longLimit) {
        return Planners.limited(fine, longLimit, 15, 5, 5, 0);
    }

    private static void addPlate() {
        PlateBeats x = new PlateBeats();
        Sentence s = new Sentence("Returns its number; INVALID_ARGUMENT if an argument is out of range; "
                + "CAPACITY_EXCEEDED if there are 4 plates.", 2);
        for (int number = 0; number < 4; number++) {
            s.due("p out of range", x.addPlate(21, 0), BAD).due("q out of range", x.addPlate(1, -1), BAD);
            s.due("number", x.addPlate(number + 1, number), number).due("its p", x.cellP(number), number + 1);
        }
        s.due("a fifth", x.addPlate(1, 0), FULL).due("p out of range", x.addPlate(21, 0), BAD);
        x.removePlate(1);
        s.due("after a removal", x.addPlate(9, 0), 3).due("its p", x.cellP(3), 9);
    }

    private static void plateArguments() {
        plateArgument(3, (x, plate) -> x.setScreen(plate, 1, 0), 122, 148, 178, 212);
        plateArgument(4, PlateBeats::removePlate, -1, -1, -1, -1);
        plateArgument(6, PlateBeats::cellP, 11, 12, 13, 14);
        plateArgument(7, PlateBeats::cellQ, 1, 2, 3, 4);
        plateArgument(8, PlateBeats::cellArea, 122, 148, 178, 212);
        plateArgument(9, PlateBeats::tile, 122, 74, 178, 106);
        plateArgument(30, (x, plate) -> x.bestScreen(plate, 1, 1), 100, 100, 100, 100);
        plateArgument(31, (x, plate) -> x.bandsWithBest(plate, 441, 441), NONE, NONE, NONE, NONE);
    }

    /** The dues of the plates (11, 1), (12, 2), (13, 3), (14, 4); -1 for the number of those that are left. */
    private static void plateArgument(int promise, Plate call, int... dues) {
        Sentence s = new Sentence("- `plate`: a plate", promise);
        for (int count = 0; count <= 4; count++) {
            for (int plate = -1; plate <= 5; plate++) {
                boolean there = plate >= 0 && plate < count;
                long due = !there ? BAD : dues[plate] == -1 ? count - 1 : dues[plate];
                s.due(plate + " of " + count, call.ask(Planners.different(count), plate), due);
            }
        }
    }

    private static void commonTile() {
        PlateBeats x = new PlateBeats();
        Sentence s = new Sentence("Returns the common tile of all plates.", 10);
        int[][] plates = {{5, 5, 10}, {6, 0, 30}, {7, 2, 1590}, {4, 1, 27030}};
        for (int[] plate : plates) {
            x.addPlate(plate[0], plate[1]);
            s.due("with (" + plate[0] + ", " + plate[1] + ")", x.commonTile(), plate[2]);
        }
        x.removePlate(0);
        s.due("without (5, 5)", x.commonTile(), 5406);
    }

    private static void byAngle() {
        PlateBeats x = Planners.of(5, 5, 7, 2, 2, 7, 6, 0);
        new Sentence("- `rank`: 0 for the first plate by angle, and so on", 11)
                .due("first", x.byAngle(0), 3).due("second", x.byAngle(1), 1).due("third", x.byAngle(2), 0)
                .due("last", x.byAngle(3), 2).due("one more", x.byAngle(4), NONE);
    }

    private static void setOrder() {
        PlateBeats x = new PlateBeats();
        new Sentence("Returns the previous order; INVALID_ARGUMENT if order is out of range.", 12)
                .due("to 2", x.setOrder(2), 1).due("to 3", x.setOrder(3), BAD).due("to 0", x.setOrder(0), BAD)
                .due("to 2 again", x.setOrder(2), 2).due("to 1", x.setOrder(1), 2).due("to 1 again", x.setOrder(1), 1);
    }

    private static void setLimits() {
        PlateBeats x = new PlateBeats();
        new Sentence("Returns the previous fine limit; INVALID_ARGUMENT if an argument is out of range.", 13)
                .due("to 20", x.setLimits(20, 30), 10).due("fine out of range", x.setLimits(0, 30), BAD)
                .due("fine out of range", x.setLimits(1001, 3000), BAD).due("long out of range", x.setLimits(40, 40), BAD)
                .due("long out of range", x.setLimits(40, 10001), BAD).due("to 50", x.setLimits(50, 60), 20)
                .due("to 50 again", x.setLimits(50, 70), 50);
    }

    private static void longLimit() {
        PlateBeats x = new PlateBeats();
        Sentence s = new Sentence("Returns the long limit.", 14).due("at first", x.longLimit(), 500);
        for (int limit : new int[] {2, 3, 11, 499, 501, 1000, 1001, 9999, 10000}) {
            x.setLimits(1, limit);
            s.due("set", x.longLimit(), limit);
        }
    }

    /** The due is that of u(0) + u(1) of (15, 5) and (5, 0), whose square is 17 / 250. */
    private static void combination(int promise, String first, String result, Combination call, long due) {
        new Sentence(first, promise).due("u(0) + u(1)", call.ask(known(3, 5), 0, 1, 1, 0, -1, 0), due);
        Sentence plates = new Sentence("- `i`: a plate - `j`: another plate, greater than i", promise);
        for (int i = -1; i <= 3; i++) {
            for (int j = -1; j <= 3; j++) {
                PlateBeats x = Planners.limited(3, 5, 15, 5, 5, 0, 15, 5);
                boolean good = i >= 0 && i < j && j < 3;
                int sign = i == 1 ? -1 : 1;
                long got = call.ask(x, i, j, 1, 0, i == 0 && j == 2 ? 1 : -1, 0);
                long square = i == 0 && j == 2 ? new int[] {0, 1, 0}[promise - 15] : due;
                plates.due(i + ", " + j + ", sign " + sign, got, good ? square : BAD);
            }
        }
        PlateBeats x = known(3, 5);
        new Sentence(result + " INVALID_ARGUMENT if there are no such plates or i is not less than j, "
                + "if a number is out of range, a and b are both 0, or c and d are both 0.", promise)
                .due("u(0) + u(1)", call.ask(x, 0, 1, 1, 0, -1, 0), due)
                .due("no plate 2", call.ask(x, 0, 2, 1, 0, -1, 0), BAD)
                .due("i is j", call.ask(x, 0, 0, 1, 0, -1, 0), BAD)
                .due("i is greater", call.ask(x, 1, 0, 1, 0, -1, 0), BAD)
                .due("a out of range", call.ask(x, 0, 1, 2, 0, -1, 0), BAD)
                .due("b out of range", call.ask(x, 0, 1, 1, -2, -1, 0), BAD)
                .due("c out of range", call.ask(x, 0, 1, 1, 0, -2, 0), BAD)
                .due("d out of range", call.ask(x, 0, 1, 1, 0, -1, 2), BAD)
                .due("a and b both 0", call.ask(x, 0, 1, 0, 0, -1, 0), BAD)
                .due("c and d both 0", call.ask(x, 0, 1, 1, 0, 0, 0), BAD);
    }

    /** u(0) + u(1) has the square 17 / 250: 250 / 17 is between the squares of 3 and of 4. */
    private static void kinds() {
        new Sentence("Returns its kind, 0 to 3", 17)
                .due("locked", Planners.of(15, 5, 15, 5).kind(0, 1, 1, 0, 1, 0), 0)
                .due("fine", known(4, 5).kind(0, 1, 1, 0, -1, 0), 1)
                .due("long", known(2, 3).kind(0, 1, 1, 0, -1, 0), 2)
                .due("band", known(3, 4).kind(0, 1, 1, 0, -1, 0), 3);
    }

    private static void pairArguments() {
        pairArgument(18, PlateBeats::beatCount, 14);
        pairArgument(19, (x, i, j) -> x.beatNumerator(i, j, 5), 13);
        pairArgument(20, (x, i, j) -> x.beatDenominator(i, j, 5), 250);
        pairArgument(21, (x, i, j) -> x.beatFrequency(i, j, 5), 8);
        pairArgument(22, (x, i, j) -> x.beatPeriod(i, j, 5), 4);
        pairArgument(23, PlateBeats::locked, 0);
        pairArgument(24, PlateBeats::bands, 36);
    }

    /** Of the plates (15, 5) and (5, 0), in whichever places they stand. */
    private static void pairArgument(int promise, Pair call, int due) {
        Sentence s = new Sentence("- `i`: a plate - `j`: another plate, greater than i", promise);
        for (int first = 0; first < 4; first++) {
            for (int second = first + 1; second < 4; second++) {
                PlateBeats x = Planners.limited(3, 5, 1, 0, 1, 0, 1, 0, 1, 0);
                x.setScreen(first, 15, 5);
                x.setScreen(second, 5, 0);
                s.due(first + ", " + second, call.ask(x, first, second), due);
                s.due(second + ", " + first, call.ask(x, second, first), BAD);
                s.due(first + ", " + first, call.ask(x, first, first), BAD);
                s.due(first + ", 4", call.ask(x, first, 4), BAD);
                s.due("-1, " + second, call.ask(x, -1, second), BAD);
            }
        }
    }

    private static void ranks() {
        String words = "- `rank`: 0 for the smallest square, and so on";
        rank(new Sentence(words, 21), (x, rank) -> x.beatFrequency(0, 1, rank), 2);
        rank(new Sentence(words, 22), (x, rank) -> x.beatPeriod(0, 1, rank), 3);
    }

    private static void ofThisSquare() {
        rank(new Sentence("Returns the numerator of this square;", 19), (x, rank) -> x.beatNumerator(0, 1, rank), 0);
        rank(new Sentence("Returns the denominator of this square;", 20), (x, rank) -> x.beatDenominator(0, 1, rank), 1);
        rank(new Sentence("Returns how many combinations have this square;", 21), (x, rank) -> x.beatFrequency(0, 1, rank), 2);
        rank(new Sentence("Returns the period of these combinations;", 22), (x, rank) -> x.beatPeriod(0, 1, rank), 3);
    }

    private static void rank(Sentence s, Rank call, int column) {
        PlateBeats x = known(10, 500);
        for (int rank = 0; rank < SQUARES.length; rank++) {
            s.due("rank " + rank, call.ask(x, rank), SQUARES[rank][column]);
        }
        s.due("one more", call.ask(x, SQUARES.length), NONE).due("rank -1", call.ask(x, -1), BAD);
    }

    /**
     * With (2, 0), (3, 1) and (1, 0), 4 times 3.25, 8 times 1.85, 4 times 0.05, and so on: see TermSentences.beatOfThree.
     * Three plates (20, 20) have only fine ones with these limits.
     */
    private static void triple() {
        Sentence plates = new Sentence("- `i`: a plate - `j`: another plate, greater than i "
                + "- `k`: another plate, greater than j", 25);
        Sentence bands = new Sentence("Returns the number of the bands of these three plates;", 25);
        int[][] triples = {{0, 1, 2}, {0, 1, 3}, {0, 2, 3}, {1, 2, 3}};
        for (int[] t : triples) {
            PlateBeats x = Planners.limited(1, 2, 1, 0, 1, 0, 1, 0, 1, 0);
            x.setScreen(t[0], 2, 0);
            x.setScreen(t[1], 3, 1);
            String what = Arrays.toString(t);
            bands.due(what, x.tripleBands(t[0], t[1], t[2]), 20);
            plates.due(what, x.tripleBands(t[0], t[1], t[2]), 20)
                    .due(what + ": j, i, k", x.tripleBands(t[1], t[0], t[2]), BAD)
                    .due(what + ": i, k, j", x.tripleBands(t[0], t[2], t[1]), BAD)
                    .due(what + ": i, i, k", x.tripleBands(t[0], t[0], t[2]), BAD)
                    .due(what + ": i, j, j", x.tripleBands(t[0], t[1], t[1]), BAD)
                    .due(what + ": i, j, 4", x.tripleBands(t[0], t[1], 4), BAD)
                    .due(what + ": -1, j, k", x.tripleBands(-1, t[1], t[2]), BAD);
        }
        bands.due("units alone", Planners.limited(1, 2, 1, 0, 1, 0, 1, 0).tripleBands(0, 1, 2), 0);
    }

    /** With F = 3 and L = 5, 36 combinations of (15, 5) and (5, 0) are bands; with (1, 0) all are fine. */
    private static void allBands() {
        PlateBeats x = Planners.limited(3, 5, 15, 5, 5, 0);
        Sentence s = new Sentence("Returns the number of the bands of all plates.", 26).due("one pair", x.allBands(), 36);
        x.addPlate(1, 0);
        s.due("with (1, 0)", x.allBands(), 36);
        x.setScreen(2, 15, 5);
        s.due("sum of three pairs and a triple", x.allBands(),
                x.bands(0, 1) + x.bands(0, 2) + x.bands(1, 2) + x.tripleBands(0, 1, 2));
        PlateBeats four = Planners.limited(3, 5, 15, 5, 5, 0, 7, 2, 4, 4);
        int sum = 0;
        for (int i = 0; i < 4; i++) {
            for (int j = i + 1; j < 4; j++) {
                sum += four.bands(i, j);
                for (int k = j + 1; k < 4; k++) {
                    sum += four.tripleBands(i, j, k);
                }
            }
        }
        s.due("sum of six pairs and four triples", four.allBands(), sum);
    }

    /** Only (15, 5) and (5, 0) have bands with these limits, the smallest one 13 / 250. */
    private static void worstPlates() {
        Sentence s = new Sentence("Tells which plates make the worst band.", 27);
        for (int first = 0; first < 4; first++) {
            for (int second = first + 1; second < 4; second++) {
                PlateBeats x = Planners.limited(3, 5, 1, 0, 1, 0, 1, 0, 1, 0);
                x.setScreen(first, 15, 5);
                x.setScreen(second, 5, 0);
                s.due(first + ", " + second, x.worstPlates(), (1 << first) + (1 << second));
                s.due("its period", x.worstPeriod(), 4);
            }
        }
        s.due("a triple", Planners.limited(6, 7, 20, 0, 20, 0, 1, 0, 20, 0).worstPlates(), 11);
    }

    private static void worstPair() {
        Sentence most = new Sentence("Finds the pair of plates with the most bands (also if no pair has any), "
                + "of several the first one by the first plate, then by the second one.", 29);
        Sentence number = new Sentence("Returns 10 times the first plate plus the second one; "
                + "NONE if there are less than two plates.", 29);
        for (int first = 0; first < 4; first++) {
            for (int second = first + 1; second < 4; second++) {
                PlateBeats x = Planners.limited(3, 5, 1, 0, 1, 0, 1, 0, 1, 0);
                x.setScreen(first, 15, 5);
                x.setScreen(second, 5, 0);
                most.due("36 of " + first + ", " + second, x.worstPair(), 10 * first + second);
                number.due(first + ", " + second, x.worstPair(), 10 * first + second);
            }
        }
        most.due("none has any", Planners.limited(3, 5, 1, 0, 1, 0, 1, 0).worstPair(), 1);
        most.due("two pairs have 36", Planners.limited(3, 5, 1, 0, 15, 5, 5, 0, 5, 0).worstPair(), 12);
        most.due("two pairs have 36", Planners.limited(3, 5, 5, 0, 1, 0, 5, 0, 15, 5).worstPair(), 3);
        number.due("one plate", Planners.of(15, 5).worstPair(), NONE).due("no plates", new PlateBeats().worstPair(), NONE);
    }

    /** The plates of the search: with these limits each pair and the triple have bands. */
    private static PlateBeats three(int fine, int longLimit) {
        return Planners.limited(fine, longLimit, 15, 5, 5, 0, 4, 4);
    }

    /** Of all screens in the range, tried one by one: how many bands, how far from its own area, then p, then q. */
    private static int[] tried(int fine, int longLimit, int plate, int low, int high) {
        int[] best = {Integer.MAX_VALUE, 0, 0, 0};
        int own = three(fine, longLimit).cellArea(plate);
        for (int p = 1; p <= 20; p++) {
            for (int q = 0; q <= 20; q++) {
                int area = p * p + q * q;
                if (area >= low && area <= high) {
                    PlateBeats x = three(fine, longLimit);
                    x.setScreen(plate, p, q);
                    int[] found = {x.allBands(), Math.abs(area - own), p, q};
                    best = Arrays.compare(found, best) < 0 ? found : best;
                }
            }
        }
        return best;
    }

    private static void bestScreen() {
        Sentence best = new Sentence("Finds the best screen for a plate.", 30);
        int[][] rows = {{3, 5, 0, 200, 300}, {3, 5, 1, 20, 30}, {2, 8, 0, 100, 800}, {2, 8, 1, 1, 60}, {3, 9, 2, 10, 90}};
        for (int[] row : rows) {
            int[] due = tried(row[0], row[1], row[2], row[3], row[4]);
            best.due(Arrays.toString(row), three(row[0], row[1]).bestScreen(row[2], row[3], row[4]), 100 * due[2] + due[3]);
        }
        Sentence number = new Sentence("Returns 100 times p plus q;", 30);
        for (int area = 1; area <= 800; area++) {
            number.due("area " + area, Planners.of(9, 9).bestScreen(0, area, area), smallestP(area));
        }
    }

    /** 100 * p + q of the cell vector with this area and the smallest p. */
    private static int smallestP(int area) {
        for (int p = 1; p <= 20; p++) {
            for (int q = 0; q <= 20; q++) {
                if (p * p + q * q == area) {
                    return 100 * p + q;
                }
            }
        }
        return NONE;
    }

    private static void bandsWithBest() {
        Sentence s = new Sentence("Returns the number; INVALID_ARGUMENT if there is no such plate "
                + "or another argument is out of range; NONE if no cell vector has such an area.", 31);
        int[][] rows = {{3, 5, 0, 250, 250}, {3, 5, 1, 20, 30}, {2, 8, 0, 100, 800}, {2, 8, 1, 1, 60}, {2, 8, 1, 25, 25},
            {3, 9, 2, 10, 90}};
        for (int[] row : rows) {
            int due = tried(row[0], row[1], row[2], row[3], row[4])[0];
            s.due(Arrays.toString(row), three(row[0], row[1]).bandsWithBest(row[2], row[3], row[4]), due);
        }
        s.due("no plate 3", three(3, 5).bandsWithBest(3, 1, 800), BAD).due("low", known(3, 5).bandsWithBest(0, 0, 800), BAD)
                .due("high", known(3, 5).bandsWithBest(0, 1, 801), BAD)
                .due("no such area", known(3, 5).bandsWithBest(0, 3, 3), NONE);
    }

    private static void save() {
        Sentence s = new Sentence("Keeps a copy of the present state in a slot, in place of what is there.", 32);
        for (int slot = 0; slot < 2; slot++) {
            PlateBeats x = Planners.limitedAtOrder2(3, 5, 15, 5);
            x.save(slot);
            x.addPlate(5, 0);
            x.setOrder(1);
            x.setLimits(6, 7);
            s.due("not changed by what follows", x.restore(slot), 1).due("p", x.cellP(0), 15).due("q", x.cellQ(0), 5);
            s.due("long limit", x.longLimit(), 5).due("fine limit", x.setLimits(8, 9), 3).due("order", x.setOrder(2), 2);
            x.setScreen(0, 1, 2);
            x.save(slot);
            x.removePlate(0);
            s.due("in place of it", x.restore(slot), 1).due("p then", x.cellP(0), 1).due("limit then", x.longLimit(), 9);
            s.due("the other slot", x.restore(1 - slot), STATE);
        }
    }

    private static void restore() {
        PlateBeats x = known(3, 5);
        Sentence s = new Sentence("Returns the number of plates then; INVALID_ARGUMENT if slot is out of range; "
                + "ILLEGAL_STATE if the slot is empty.", 33)
                .due("slot -1", x.restore(-1), BAD).due("slot 2", x.restore(2), BAD)
                .due("0 is empty", x.restore(0), STATE).due("1 is empty", x.restore(1), STATE);
        x.save(1);
        x.removePlate(0);
        s.due("0 is empty", x.restore(0), STATE).due("2 plates then", x.restore(1), 2).due("slot 2", x.restore(2), BAD);
    }
}
