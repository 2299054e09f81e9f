/** Promises 1 to 11: a new object, the plates. */
final class PlatesTest {
    private static final int[][] BAD_SCREENS = {
        {0, 5}, {21, 5}, {-1, 0}, {5, -1}, {5, 21}, {0, 0}, {Integer.MAX_VALUE, 1}, {Integer.MIN_VALUE, 1},
        {1, Integer.MAX_VALUE}, {1, Integer.MIN_VALUE}};
    private static final int[] BAD_PLATES = {-1, 2, 3, 4, 31, 32, Integer.MAX_VALUE, Integer.MIN_VALUE};

    private PlatesTest() {
    }

    static void run() {
        newObject();
        addPlate();
        setScreen();
        removePlate();
        plateQueries();
        tiles();
        commonTile();
        byAngle();
    }

    private static void newObject() {
        PlateBeats x = new PlateBeats();
        Check.due("1: plateCount", x.plateCount(), 0);
        Check.due("1: commonTile", x.commonTile(), 1);
        Check.due("1: byAngle", x.byAngle(0), PlateBeats.NONE);
        Check.due("1: cellP", x.cellP(0), PlateBeats.INVALID_ARGUMENT);
        Check.due("1: longLimit", x.longLimit(), 500);
        Check.due("1: allBands", x.allBands(), 0);
        Check.due("1: worstPlates", x.worstPlates(), PlateBeats.NONE);
        Check.due("1: worstPeriod", x.worstPeriod(), PlateBeats.NONE);
        Check.due("1: worstPair", x.worstPair(), PlateBeats.NONE);
        Check.due("1: historySize", x.historySize(), 0);
        Check.due("1: undo", x.undo(), PlateBeats.ILLEGAL_STATE);
        Check.due("1: restore(0)", x.restore(0), PlateBeats.ILLEGAL_STATE);
        Check.due("1: restore(1)", x.restore(1), PlateBeats.ILLEGAL_STATE);
        Check.due("1: setOrder", x.setOrder(1), 1);
        Check.due("1: setLimits", x.setLimits(10, 500), 10);
    }

    private static void addPlate() {
        PlateBeats x = new PlateBeats();
        for (int[] bad : BAD_SCREENS) {
            Check.due("2: bad screen", x.addPlate(bad[0], bad[1]), PlateBeats.INVALID_ARGUMENT);
        }
        Check.due("2: errors change nothing", x.plateCount() + x.historySize(), 0);
        Check.due("2: smallest", x.addPlate(1, 0), 0);
        Check.due("2: greatest", x.addPlate(20, 20), 1);
        Check.due("2: least p, greatest q", x.addPlate(1, 20), 2);
        Check.due("2: the same again", x.addPlate(1, 20), 3);
        Check.due("2: a fifth", x.addPlate(3, 3), PlateBeats.CAPACITY_EXCEEDED);
        Check.due("2: a bad fifth", x.addPlate(0, 3), PlateBeats.INVALID_ARGUMENT);
        Check.due("2: history", x.historySize(), 4);
        Check.due("2: count", x.plateCount(), 4);
        Check.due("2: p", x.cellP(1), 20);
        Check.due("2: q", x.cellQ(2), 20);
        Check.due("2: undo", x.undo(), 3);
        Check.due("2: count after undo", x.plateCount(), 3);
    }

    private static PlateBeats twoPlates() {
        PlateBeats x = new PlateBeats();
        x.addPlate(4, 6);
        x.addPlate(5, 0);
        return x;
    }

    private static void setScreen() {
        PlateBeats x = twoPlates();
        for (int plate : BAD_PLATES) {
            Check.due("3: no plate", x.setScreen(plate, 1, 1), PlateBeats.INVALID_ARGUMENT);
        }
        for (int[] bad : BAD_SCREENS) {
            Check.due("3: bad screen", x.setScreen(0, bad[0], bad[1]), PlateBeats.INVALID_ARGUMENT);
        }
        Check.due("3: errors record nothing", x.historySize(), 2);
        Check.due("3: area before", x.setScreen(0, 20, 1), 52);
        Check.due("3: area before", x.setScreen(0, 1, 20), 401);
        Check.due("3: the same", x.setScreen(0, 1, 20), 401);
        Check.due("3: records", x.historySize(), 5);
        Check.due("3: p", x.cellP(0), 1);
        Check.due("3: q", x.cellQ(0), 20);
        Check.due("3: the other one stays", x.cellArea(1), 25);
    }

    private static void removePlate() {
        PlateBeats x = twoPlates();
        for (int plate : BAD_PLATES) {
            Check.due("4: no plate", x.removePlate(plate), PlateBeats.INVALID_ARGUMENT);
        }
        x.addPlate(7, 3);
        x.addPlate(8, 1);
        Check.due("4: left", x.removePlate(1), 3);
        Check.due("4: first stays", x.cellP(0), 4);
        Check.due("4: third is second", x.cellP(1), 7);
        Check.due("4: its q", x.cellQ(1), 3);
        Check.due("4: fourth is third", x.cellP(2), 8);
        Check.due("4: no fourth", x.cellP(3), PlateBeats.INVALID_ARGUMENT);
        Check.due("4: records", x.historySize(), 5);
        Check.due("4: last", x.removePlate(2), 2);
        Check.due("4: again last", x.removePlate(2), PlateBeats.INVALID_ARGUMENT);
        Check.due("4: first", x.removePlate(0), 1);
        Check.due("4: moved", x.cellP(0), 7);
        Check.due("4: to none", x.removePlate(0), 0);
        Check.due("4: none left", x.removePlate(0), PlateBeats.INVALID_ARGUMENT);
        Check.due("4: room again", x.addPlate(2, 2), 0);
    }

    private static void plateQueries() {
        PlateBeats x = twoPlates();
        Check.due("5: two", x.plateCount(), 2);
        Check.due("6: p", x.cellP(0), 4);
        Check.due("6: p", x.cellP(1), 5);
        Check.due("7: q", x.cellQ(0), 6);
        Check.due("7: q", x.cellQ(1), 0);
        Check.due("8: area", x.cellArea(0), 52);
        Check.due("8: area", x.cellArea(1), 25);
        for (int plate : BAD_PLATES) {
            Check.due("6: no plate", x.cellP(plate), PlateBeats.INVALID_ARGUMENT);
            Check.due("7: no plate", x.cellQ(plate), PlateBeats.INVALID_ARGUMENT);
            Check.due("8: no plate", x.cellArea(plate), PlateBeats.INVALID_ARGUMENT);
            Check.due("9: no plate", x.tile(plate), PlateBeats.INVALID_ARGUMENT);
        }
        Check.due("5: no action", x.historySize(), 2);
        x.removePlate(0);
        Check.due("5: one", x.plateCount(), 1);
    }

    private static void tiles() {
        PlateBeats x = twoPlates();
        Check.due("9: common divisor 2", x.tile(0), 26);
        Check.due("9: q is 0", x.tile(1), 5);
        x.setScreen(0, 20, 20);
        x.setScreen(1, 20, 19);
        Check.due("9: p is q", x.tile(0), 40);
        Check.due("9: no common divisor", x.tile(1), 761);
        x.setScreen(0, 1, 0);
        x.setScreen(1, 1, 20);
        Check.due("9: smallest", x.tile(0), 1);
        Check.due("9: p is 1", x.tile(1), 401);
    }

    private static void commonTile() {
        PlateBeats x = twoPlates();
        Check.due("10: 26 and 5", x.commonTile(), 130);
        x.addPlate(5, 5);
        Check.due("10: and 10", x.commonTile(), 130);
        x.addPlate(7, 2);
        Check.due("10: and 53", x.commonTile(), 6890);
        x.setScreen(0, 20, 19);
        x.setScreen(1, 20, 17);
        x.setScreen(2, 19, 18);
        x.setScreen(3, 20, 13);
        Check.due("10: more than an int holds", x.commonTile(), 761L * 689 * 685 * 569);
    }

    private static void byAngle() {
        PlateBeats x = new PlateBeats();
        x.addPlate(4, 2);
        x.addPlate(1, 20);
        x.addPlate(2, 1);
        x.addPlate(20, 9);
        int[] order = {3, 0, 2, 1, PlateBeats.NONE, PlateBeats.NONE};
        for (int rank = 0; rank < order.length; rank++) {
            Check.due("11: rank " + rank, x.byAngle(rank), order[rank]);
        }
        Check.due("11: -1", x.byAngle(-1), PlateBeats.INVALID_ARGUMENT);
        Check.due("11: least", x.byAngle(Integer.MIN_VALUE), PlateBeats.INVALID_ARGUMENT);
        Check.due("11: greatest", x.byAngle(Integer.MAX_VALUE), PlateBeats.NONE);
        x.setScreen(1, 7, 0);
        x.setScreen(3, 1, 0);
        Check.due("11: both 0, first", x.byAngle(0), 1);
        Check.due("11: both 0, second", x.byAngle(1), 3);
    }
}
