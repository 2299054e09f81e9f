import java.math.BigInteger;
import java.util.ArrayList;
import java.util.Arrays;
import java.util.List;

/**
 * The sentences of "What it is" and of "Terms" that name no boundary. The dues are worked out by hand or by the
 * sentence's own words, never by the formulas of the program.
 */
final class TermSentences {
    private static final int BAD = PlateBeats.INVALID_ARGUMENT;
    private static final int STATE = PlateBeats.ILLEGAL_STATE;
    private static final int FULL = PlateBeats.CAPACITY_EXCEEDED;
    private static final int NONE = PlateBeats.NONE;
    private static final int LOCKED = 0;
    private static final int FINE = 1;
    private static final int LONG = 2;
    private static final int BAND = 3;

    private TermSentences() {
    }

    static void run() {
        whatItIs();
        squareGrid();
        whatIsFound();
        roundedDown();
        atMostFour();
        cellVector();
        area();
        grid();
        tile();
        angles();
        frequencies();
        combinations();
        beat();
        square();
        combinationsOfThree();
        beatOfThree();
        everyAction();
        wholeState();
        twoSlots();
        invalidArgument();
        illegalState();
        capacityExceeded();
        none();
    }

    private static void whatItIs() {
        Sentence s = new Sentence("A planner for the halftone screens of up to four printing plates.", 2, 26);
        PlateBeats x = new PlateBeats();
        for (int plate = 0; plate < 4; plate++) {
            s.due("a plate", x.addPlate(10, 0), plate);
        }
        x.setLimits(9, 11);
        s.due("a fifth plate", x.addPlate(10, 0), FULL).due("bands of four plates", x.allBands(), 6 * 16 + 4 * 36);
    }

    /** A turn by a right angle, which leaves a square grid as it is, leaves every square as it is. */
    private static void squareGrid() {
        Sentence s = new Sentence("Each plate has a square grid of dots, which is given by a cell vector in device pixels.",
                6, 7, 15, 16);
        PlateBeats given = Planners.of(7, 2, 4, 6);
        s.due("p", given.cellP(0), 7).due("q", given.cellQ(0), 2).due("p", given.cellP(1), 4).due("q", given.cellQ(1), 6);
        for (int[] n : numbers(2)) {
            PlateBeats x = Planners.limitedAtOrder2(10, 500, 7, 2, 4, 6);
            String what = Arrays.toString(n);
            s.due(what + " turned: numerator", x.squareNumerator(0, 1, -n[1], n[0], -n[3], n[2]),
                    x.squareNumerator(0, 1, n[0], n[1], n[2], n[3]));
            s.due(what + " turned: denominator", x.squareDenominator(0, 1, -n[1], n[0], -n[3], n[2]),
                    x.squareDenominator(0, 1, n[0], n[1], n[2], n[3]));
        }
    }

    /** All a, b, c, d of an order, but for those with a and b or c and d both 0. */
    private static List<int[]> numbers(int order) {
        List<int[]> all = new ArrayList<>();
        for (int a = -order; a <= order; a++) {
            for (int b = -order; b <= order; b++) {
                for (int c = -order; c <= order; c++) {
                    for (int d = -order; d <= order; d++) {
                        if ((a != 0 || b != 0) && (c != 0 || d != 0)) {
                            all.add(new int[] {a, b, c, d});
                        }
                    }
                }
            }
        }
        return all;
    }

    private static void whatIsFound() {
        PlateBeats x = Planners.of(5, 5, 7, 2, 2, 7, 6, 0);
        PlateBeats near = Planners.of(20, 20, 20, 19, 20, 20);
        new Sentence("The beats (moire) of two and of three plates are found exactly; they are fine, long, locked, or bands, "
                + "which can be seen; the planner finds the worst band, the tiles in which screens repeat, and the best screen "
                + "for a plate.", 9, 10, 15, 16, 17, 25, 27, 28, 30)
                .due("two plates: 1 of 608800", near.squareNumerator(0, 1, 1, 0, 1, 0), 1)
                .due("two plates: 608800", near.squareDenominator(0, 1, 1, 0, 1, 0), 608800)
                .due("three plates: the square 1 / 99248769 is long with 9962",
                        Planners.limited(1000, 9962, 2, 17, 18, 15, 19, 16).tripleBands(0, 1, 2), 0)
                .due("three plates: and a band with 9963",
                        Planners.limited(1000, 9963, 2, 17, 18, 15, 19, 16).tripleBands(0, 1, 2), 4)
                .due("locked", near.kind(0, 2, 1, 0, 1, 0), LOCKED)
                .due("fine", x.kind(0, 1, 1, 0, 0, 1), FINE)
                .due("long", near.kind(0, 1, 1, 0, 1, 0), LONG)
                .due("band", x.kind(0, 1, 1, 0, 1, 0), BAND)
                .due("worst band: plates", x.worstPlates(), 7)
                .due("worst band: period", x.worstPeriod(), 124)
                .due("tile", x.tile(1), 53)
                .due("common tile", x.commonTile(), 1590)
                .due("best screen", Planners.of(5, 0).bestScreen(0, 1, 24), 204);
    }

    /** 1 / S is 159993 / 1600 = 99.996 and 2650 / 13 = 203.8: their roots are 9.9998 and 14.3. */
    private static void roundedDown() {
        new Sentence("A quotient is rounded down.", 22, 28)
                .due("9.9998", Planners.limited(9, 10, 6, 15, 18, 17).worstPeriod(), 9)
                .due("14.3", Planners.of(5, 5, 7, 2).beatPeriod(0, 1, 0), 14)
                .due("14.3", Planners.of(5, 5, 7, 2).worstPeriod(), 14);
    }

    private static void atMostFour() {
        PlateBeats x = Planners.equal(4);
        x.save(0);
        Sentence s = new Sentence("There are at most 4 plates,", 2, 5, 33, 35)
                .due("4", x.plateCount(), 4)
                .due("a fifth", x.addPlate(1, 0), FULL)
                .due("still 4", x.plateCount(), 4)
                .due("no plate 4", x.cellP(4), BAD)
                .due("plate 3", x.cellP(3), 10);
        x.removePlate(0);
        x.restore(0);
        s.due("restored", x.plateCount(), 4).due("a fifth then", x.addPlate(1, 0), FULL);
        x.undo();
        x.undo();
        s.due("undone", x.plateCount(), 4).due("a fifth then", x.addPlate(1, 0), FULL);
    }

    private static void cellVector() {
        Sentence s = new Sentence("A plate has a cell vector (p, q), with p from 1 to 20 and q from 0 to 20", 2, 3, 6, 7);
        for (int p = 0; p <= 21; p++) {
            for (int q = -1; q <= 21; q++) {
                boolean good = p >= 1 && p <= 20 && q >= 0 && q <= 20;
                PlateBeats x = Planners.of(9, 8);
                String what = "(" + p + ", " + q + ")";
                s.due(what + " added", x.addPlate(p, q), good ? 1 : BAD);
                s.due("p of " + what, x.cellP(1), good ? p : BAD);
                s.due("q of " + what, x.cellQ(1), good ? q : BAD);
                s.due(what + " set", x.setScreen(0, p, q), good ? 145 : BAD);
                s.due("p of " + what, x.cellP(0), good ? p : 9);
                s.due("q of " + what, x.cellQ(0), good ? q : 8);
            }
        }
    }

    private static void area() {
        Sentence s = new Sentence("The area of its cell is A = p * p + q * q.", 3, 8);
        for (int p = 1; p <= 20; p++) {
            for (int q = 0; q <= 20; q++) {
                PlateBeats x = Planners.of(p, q);
                s.due(p + ", " + q, x.cellArea(0), p * p + q * q).due("had", x.setScreen(0, 1, 0), p * p + q * q);
            }
        }
    }

    /** (x, y) is m times (p, q) and n times (-q, p). No number needs more than 20 of them up to the tile's corners. */
    private static boolean inGrid(int p, int q, int x, int y) {
        for (int m = -20; m <= 20; m++) {
            for (int n = -20; n <= 20; n++) {
                if (m * p - n * q == x && m * q + n * p == y) {
                    return true;
                }
            }
        }
        return false;
    }

    /** By hand: (4, 2) has 3 times (4, 2) and once (-2, 4): (10, 10); 2 times and -1 time: (10, 0). */
    private static void grid() {
        Sentence s = new Sentence("Its grid has all sums of multiples of (p, q) and (-q, p).", 9)
                .due("(4, 2)", Planners.of(4, 2).tile(0), 10)
                .due("(2, 4)", Planners.of(2, 4).tile(0), 10)
                .due("(3, 1)", Planners.of(3, 1).tile(0), 10)
                .due("(2, 2)", Planners.of(2, 2).tile(0), 4)
                .due("(6, 0)", Planners.of(6, 0).tile(0), 6);
        for (int p = 1; p <= 20; p++) {
            for (int q = 0; q <= 20; q++) {
                int tile = Planners.of(p, q).tile(0);
                s.holds("a dot at (tile, 0) of " + p + ", " + q, inGrid(p, q, tile, 0));
                s.holds("a dot at (0, tile) of " + p + ", " + q, inGrid(p, q, 0, tile));
            }
        }
    }

    private static void tile() {
        Sentence s = new Sentence("The tile of a plate is the side of the smallest square with sides along the axes "
                + "in which its grid repeats: A divided by the greatest common divisor of p and q (which is p if q is 0).", 9);
        for (int p = 1; p <= 20; p++) {
            for (int q = 0; q <= 20; q++) {
                int side = 1;
                while (!inGrid(p, q, side, 0) || !inGrid(p, q, 0, side)) {
                    side++;
                }
                s.due(p + ", " + q, Planners.of(p, q).tile(0), side);
            }
        }
    }

    private static void angles() {
        Sentence s = new Sentence("Plates are ordered by their angles: the plate with the smaller q / p comes first, "
                + "of equal ones the one with the smaller number.", 11);
        int[][] byAngle = {{20, 0}, {20, 1}, {19, 1}, {7, 2}, {20, 19}, {3, 3}, {19, 20}, {2, 7}, {1, 19}, {1, 20}};
        for (int k = 0; k < byAngle.length; k++) {
            for (int m = 0; m < byAngle.length; m++) {
                PlateBeats x = Planners.of(byAngle[k][0], byAngle[k][1], byAngle[m][0], byAngle[m][1]);
                String what = Arrays.toString(byAngle[k]) + ", " + Arrays.toString(byAngle[m]);
                s.due("first of " + what, x.byAngle(0), k <= m ? 0 : 1);
                s.due("second of " + what, x.byAngle(1), k <= m ? 1 : 0);
            }
        }
    }

    private static void square(Sentence s, PlateBeats x, int[] n, long numerator, long denominator) {
        String what = Arrays.toString(n);
        s.due("numerator of " + what, x.squareNumerator(0, 1, n[0], n[1], n[2], n[3]), numerator);
        s.due("denominator of " + what, x.squareDenominator(0, 1, n[0], n[1], n[2], n[3]), denominator);
    }

    /** Of (3, 1), u = (3 / 10, 1 / 10) and v = (-1 / 10, 3 / 10); of (1, 0), u = (1, 0) and v = (0, 1). */
    private static void frequencies() {
        Sentence s = new Sentence("The frequencies of a plate are the vectors u = (p / A, q / A) and v = (-q / A, p / A).", 15, 16);
        PlateBeats first = Planners.of(3, 1, 1, 0);
        square(s, first, new int[] {1, 0, 1, 0}, 1, 2);
        square(s, first, new int[] {1, 0, 0, 1}, 9, 10);
        square(s, first, new int[] {0, 1, 1, 0}, 13, 10);
        square(s, first, new int[] {0, 1, 0, 1}, 1, 2);
        PlateBeats second = Planners.of(1, 0, 3, 1);
        square(s, second, new int[] {1, 0, 1, 0}, 1, 2);
        square(s, second, new int[] {0, 1, 1, 0}, 9, 10);
        square(s, second, new int[] {1, 0, 0, 1}, 13, 10);
        square(s, second, new int[] {0, 1, 0, 1}, 1, 2);
    }

    /** There are 8 times 8 of them at order 1, 24 times 24 at order 2, and no others answer. */
    private static void combinations() {
        Sentence s = new Sentence("A combination of two plates i and j, i less than j, consists of four numbers a, b, c, d from "
                + "-order to order, where a and b are not both 0, and c and d are not both 0.", 15, 16, 17, 18, 21);
        for (int order = 1; order <= 2; order++) {
            PlateBeats x = Planners.of(3, 1, 1, 0);
            x.setOrder(order);
            int sum = 0;
            for (int rank = 0; rank < x.beatCount(0, 1); rank++) {
                sum += x.beatFrequency(0, 1, rank);
            }
            s.due("all of order " + order, sum, order == 1 ? 64 : 576);
            int answered = 0;
            for (int[] n : numbers(3)) {
                PlateBeats y = Planners.of(3, 1, 1, 0);
                y.setOrder(order);
                answered += y.kind(0, 1, n[0], n[1], n[2], n[3]) == BAD ? 0 : 1;
                s.due("i is greater", y.kind(1, 0, n[0], n[1], n[2], n[3]), BAD);
            }
            s.due("all that answer of order " + order, answered, order == 1 ? 64 : 576);
            s.due("a and b are both 0", x.squareNumerator(0, 1, 0, 0, 1, 0), BAD);
            s.due("c and d are both 0", x.squareDenominator(0, 1, 1, 0, 0, 0), BAD);
        }
    }

    /** Both parts of the beat, times both areas; their squares are summed and divided by those areas' square. */
    private static void asWritten(Sentence s, int[] i, int[] j) {
        long areaI = i[0] * i[0] + i[1] * i[1];
        long areaJ = j[0] * j[0] + j[1] * j[1];
        for (int[] n : numbers(2)) {
            long x = (n[0] * i[0] - n[1] * i[1]) * areaJ - (n[2] * j[0] - n[3] * j[1]) * areaI;
            long y = (n[0] * i[1] + n[1] * i[0]) * areaJ - (n[2] * j[1] + n[3] * j[0]) * areaI;
            long sum = x * x + y * y;
            long divisor = areaI * areaI * areaJ * areaJ;
            long common = BigInteger.valueOf(sum).gcd(BigInteger.valueOf(divisor)).longValue();
            PlateBeats planner = Planners.limitedAtOrder2(10, 500, i[0], i[1], j[0], j[1]);
            square(s, planner, n, sum / common, divisor / common);
        }
    }

    /** By hand: with (3, 1) and (1, 0), 2 * u - v - u is (-3 / 10, -1 / 10), and so on. */
    private static void beat() {
        Sentence s = new Sentence("Its beat is the vector a * u(i) + b * v(i) - c * u(j) - d * v(j).", 15, 16);
        PlateBeats x = Planners.limitedAtOrder2(10, 500, 3, 1, 1, 0);
        square(s, x, new int[] {2, -1, 1, 0}, 1, 10);
        square(s, x, new int[] {2, -1, 2, 0}, 17, 10);
        square(s, x, new int[] {2, 0, 1, 0}, 1, 5);
        square(s, x, new int[] {1, 1, 1, 1}, 1, 1);
        square(s, x, new int[] {1, 0, -1, 0}, 17, 10);
        square(s, x, new int[] {1, 0, 0, -1}, 13, 10);
        asWritten(s, new int[] {7, 2}, new int[] {4, 6});
        asWritten(s, new int[] {20, 19}, new int[] {20, 20});
    }

    private static void square() {
        Sentence s = new Sentence("The square of a combination is the sum of the squares of both parts of its beat, a fraction.",
                15, 16);
        PlateBeats x = Planners.of(10, 0, 5, 5);
        square(s, x, new int[] {1, 0, 0, -1}, 1, 100);
        square(s, x, new int[] {1, 0, -1, 0}, 1, 20);
        square(s, x, new int[] {1, 1, 1, 0}, 0, 1);
        asWritten(s, new int[] {10, 0}, new int[] {5, 5});
        asWritten(s, new int[] {1, 20}, new int[] {19, 1});
    }

    /** Three equal plates (10, 0): of the 64 sums 4 times 9 have the square 1 / 100, 4 times 6 have 5 / 100, 4 have 9 / 100. */
    private static void combinationsOfThree() {
        new Sentence("A combination of three plates i, j, k (i less than j, j less than k) consists of one vector "
                + "for each of them, which is u, v, -u or -v of this plate.", 25)
                .due("all 64", Planners.limited(3, 11, 10, 0, 10, 0, 10, 0).tripleBands(0, 1, 2), 64)
                .due("9 / 100 alone", Planners.limited(3, 4, 10, 0, 10, 0, 10, 0).tripleBands(0, 1, 2), 4)
                .due("5 / 100 alone", Planners.limited(4, 10, 10, 0, 10, 0, 10, 0).tripleBands(0, 1, 2), 24)
                .due("1 / 100 alone", Planners.limited(9, 11, 10, 0, 10, 0, 10, 0).tripleBands(0, 1, 2), 36)
                .due("the order does not count", Planners.limitedAtOrder2(9, 11, 10, 0, 10, 0, 10, 0).tripleBands(0, 1, 2), 36)
                .due("i is j", Planners.equal(3).tripleBands(1, 1, 2), BAD)
                .due("j is k", Planners.equal(3).tripleBands(0, 1, 1), BAD);
    }

    /**
     * With u = (1 / 2, 0) of (2, 0), the vectors (3 / 10, 1 / 10), (-1 / 10, 3 / 10), .. of (3, 1) and (1, 0), (0, 1), ..
     * of (1, 0), the squares of the 16 sums are 3.25, 1.85, 0.05, 1.45, 2.05, 1.85, 0.45, 0.65, 1.45, 0.85, 0.65, 1.25, 2.65,
     * 0.85, 0.25 and 2.05.
     */
    private static void beatOfThree() {
        int[][] limits = {{1, 2, 20}, {1, 3, 24}, {1, 4, 24}, {1, 5, 28}, {2, 4, 0}, {2, 5, 4}};
        int[][] screens = {{2, 0, 3, 1, 1, 0}, {3, 1, 2, 0, 1, 0}, {3, 1, 1, 0, 2, 0}, {1, 0, 2, 0, 3, 1}};
        Sentence s = new Sentence("Its beat is the sum of these three vectors.", 25);
        for (int[] screen : screens) {
            for (int[] row : limits) {
                String what = Arrays.toString(screen) + ", limits " + row[0] + ", " + row[1];
                s.due(what, Planners.limited(row[0], row[1], screen).tripleBands(0, 1, 2), row[2]);
            }
        }
    }

    private interface Action {
        long ask(PlateBeats x, int time);
    }

    /** Every action, done once to seven times, and all of them undone: what is there is as it was before the latest five. */
    private static void everyAction() {
        Sentence s = new Sentence("Every successful call of a method that is called an action records the state before it (also if "
                + "nothing changes by it); when a sixth one is recorded, the oldest one is dropped.", 2, 3, 4, 12, 13, 33, 34, 35);
        everyAction(s, "setScreen", (x, time) -> x.setScreen(0, time, time));
        everyAction(s, "setScreen without a change", (x, time) -> x.setScreen(0, 15, 5));
        everyAction(s, "setOrder", (x, time) -> x.setOrder(1 + time % 2));
        everyAction(s, "setOrder without a change", (x, time) -> x.setOrder(2));
        everyAction(s, "setLimits", (x, time) -> x.setLimits(time, 30 + time));
        everyAction(s, "setLimits without a change", (x, time) -> x.setLimits(3, 40));
        everyAction(s, "restore", (x, time) -> x.restore(time % 2));
        everyAction(s, "addPlate and removePlate", (x, time) -> time % 2 == 1 ? x.addPlate(time, 2) : x.removePlate(0));
        everyAction(s, "removePlate and addPlate", (x, time) -> time % 2 == 0 ? x.addPlate(time, 2) : x.removePlate(1));
    }

    /** As new, but slot 0 keeps two plates with the order 2 and the limits 3 and 40, slot 1 the state of a new object. */
    private static PlateBeats prepared() {
        PlateBeats x = new PlateBeats();
        x.save(1);
        x.addPlate(15, 5);
        x.addPlate(5, 0);
        x.setOrder(2);
        x.setLimits(3, 40);
        x.save(0);
        for (int k = 0; k < 4; k++) {
            x.undo();
        }
        return x;
    }

    private static void everyAction(Sentence s, String name, Action action) {
        for (int times = 1; times <= 7; times++) {
            PlateBeats x = prepared();
            x.restore(0);
            PlateBeats before = prepared();
            before.restore(0);
            for (int time = 1; time <= times; time++) {
                s.holds(name + " succeeds", action.ask(x, time) >= 0);
                if (time <= times - 5) {
                    action.ask(before, time);
                }
            }
            int kept = Math.min(times, 5);
            s.due(name + ": history", x.historySize(), Math.min(times + 1, 5));
            for (int k = 0; k < kept; k++) {
                x.undo();
            }
            sameState(s, name + ", " + times + " times, undone", x, before);
        }
    }

    private static void sameState(Sentence s, String what, PlateBeats x, PlateBeats due) {
        s.due(what + ": plates", x.plateCount(), due.plateCount());
        for (int plate = 0; plate < 4; plate++) {
            s.due(what + ": p", x.cellP(plate), due.cellP(plate)).due(what + ": q", x.cellQ(plate), due.cellQ(plate));
        }
        s.due(what + ": long limit", x.longLimit(), due.longLimit());
        s.due(what + ": fine limit", x.setLimits(9, 10), due.setLimits(9, 10));
        s.due(what + ": order", x.setOrder(1), due.setOrder(1));
    }

    /** Plates, order and limits are of the state: undo and restore bring them back; history and slots are not. */
    private static void wholeState() {
        Sentence s = new Sentence("A history of at most 5 states is kept; a state is everything but the history and the slots.",
                33, 34, 35);
        for (int slot = 0; slot < 2; slot++) {
            PlateBeats x = prepared();
            s.due("slot 0", x.restore(0), 2).due("history", x.historySize(), 1).due("long limit", x.longLimit(), 40);
            s.due("fine limit", x.setLimits(50, 60), 3).due("order", x.setOrder(1), 2).due("area", x.setScreen(1, 9, 9), 25);
            s.due("plates", x.removePlate(0), 1).due("history", x.historySize(), 5);
            x.save(slot);
            s.due("undo", x.undo(), 4).due("plates", x.plateCount(), 2).due("undo", x.undo(), 3).due("area", x.cellArea(1), 25);
            s.due("undo", x.undo(), 2).due("long limit", x.longLimit(), 60);
            s.due("undo", x.undo(), 1).due("long limit", x.longLimit(), 40);
            s.due("the slot stays", x.restore(slot), 1).due("the history is not of the state", x.historySize(), 2);
            s.due("its long limit", x.longLimit(), 60).due("its fine limit", x.setLimits(1, 2), 50);
            s.due("its order", x.setOrder(2), 1).due("its area", x.cellArea(0), 162);
            s.due("the other slot", x.restore(1 - slot), slot == 0 ? 0 : 2).due("history", x.historySize(), 5);
        }
    }

    private static void twoSlots() {
        PlateBeats x = Planners.of(15, 5);
        Sentence s = new Sentence("There are two slots, 0 and 1, empty at first; a slot keeps a copy of a state.", 32, 33)
                .due("slot 0 at first", x.restore(0), STATE).due("slot 1 at first", x.restore(1), STATE)
                .due("no slot -1", x.save(-1), BAD).due("no slot 2", x.save(2), BAD).due("to slot 1", x.save(1), 1);
        x.addPlate(5, 0);
        s.due("slot 0 is empty", x.restore(0), STATE).due("to slot 0", x.save(0), 2);
        x.setScreen(0, 1, 1);
        s.due("slot 1", x.restore(1), 1).due("its copy", x.cellArea(0), 250);
        s.due("slot 0", x.restore(0), 2).due("its copy", x.cellArea(0), 250).due("its copy", x.cellArea(1), 25);
    }

    private static void invalidArgument() {
        PlateBeats x = Planners.equal(2);
        Sentence range = new Sentence("The constants: `INVALID_ARGUMENT = -1`: An argument is out of range, "
                + "or names something that does not exist.", 2, 3, 4, 6, 7, 8, 9, 11, 12, 13, 15, 16, 17, 18, 19, 20, 21, 22, 23,
                24, 25, 30, 31, 32, 33);
        range.due("addPlate", x.addPlate(0, 0), -1).due("setScreen: plate", x.setScreen(2, 1, 0), -1)
                .due("setScreen: p", x.setScreen(0, 21, 0), -1).due("removePlate", x.removePlate(2), -1)
                .due("cellP", x.cellP(2), -1).due("cellQ", x.cellQ(2), -1).due("cellArea", x.cellArea(2), -1)
                .due("tile", x.tile(2), -1).due("byAngle", x.byAngle(-1), -1).due("setOrder", x.setOrder(3), -1)
                .due("setLimits", x.setLimits(5, 5), -1).due("squareNumerator", x.squareNumerator(0, 1, 2, 0, 1, 0), -1)
                .due("squareDenominator", x.squareDenominator(0, 2, 1, 0, 1, 0), -1).due("kind", x.kind(0, 1, 0, 0, 1, 0), -1)
                .due("beatCount", x.beatCount(0, 2), -1).due("beatNumerator", x.beatNumerator(0, 1, -1), -1)
                .due("beatDenominator", x.beatDenominator(0, 1, -1), -1).due("beatFrequency", x.beatFrequency(0, 1, -1), -1)
                .due("beatPeriod", x.beatPeriod(0, 1, -1), -1).due("locked", x.locked(1, 1), -1).due("bands", x.bands(1, 0), -1)
                .due("tripleBands", x.tripleBands(0, 1, 2), -1).due("bestScreen", x.bestScreen(0, 0, 5), -1)
                .due("bandsWithBest", x.bandsWithBest(2, 1, 5), -1).due("save", x.save(2), -1).due("restore", x.restore(2), -1);
    }

    private static void illegalState() {
        PlateBeats x = new PlateBeats();
        Sentence s = new Sentence("`ILLEGAL_STATE = -2`: The call is not possible in the present state.", 33, 35)
                .due("restore", x.restore(0), STATE).due("undo", x.undo(), STATE).due("the constant", STATE, -2);
        x.save(0);
        s.due("restore is possible then", x.restore(0), 0).due("undo is possible then", x.undo(), 0);
    }

    private static void capacityExceeded() {
        PlateBeats x = Planners.equal(4);
        Sentence s = new Sentence("`CAPACITY_EXCEEDED = -3`: There is no room.", 2)
                .due("a fifth plate", x.addPlate(5, 5), FULL).due("the constant", FULL, -3);
        x.removePlate(3);
        s.due("there is room then", x.addPlate(5, 5), 3);
    }

    private static void none() {
        PlateBeats x = Planners.equal(1);
        PlateBeats y = Planners.equal(2);
        new Sentence("`NONE = -4`: There is no such value.", 11, 19, 20, 21, 22, 27, 28, 29, 30, 31)
                .due("the constant", NONE, -4)
                .due("byAngle", x.byAngle(1), NONE)
                .due("beatNumerator", y.beatNumerator(0, 1, 6), NONE)
                .due("beatDenominator", y.beatDenominator(0, 1, 6), NONE)
                .due("beatFrequency", y.beatFrequency(0, 1, 6), NONE)
                .due("beatPeriod", y.beatPeriod(0, 1, 6), NONE)
                .due("beatPeriod of 0", y.beatPeriod(0, 1, 0), NONE)
                .due("worstPlates", x.worstPlates(), NONE)
                .due("worstPeriod", x.worstPeriod(), NONE)
                .due("worstPair", x.worstPair(), NONE)
                .due("bestScreen", x.bestScreen(0, 3, 3), NONE)
                .due("bandsWithBest", x.bandsWithBest(0, 3, 3), NONE);
    }
}
