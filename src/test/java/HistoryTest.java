/** Promises 32 to 35: slots and history. */
final class HistoryTest {
    private static final int BAD = PlateBeats.INVALID_ARGUMENT;
    private static final int[] BAD_SLOTS = {-1, 2, 3, Integer.MAX_VALUE, Integer.MIN_VALUE};

    private HistoryTest() {
    }

    static void run() {
        save();
        restore();
        historyOfFive();
        everyAction();
        wholeState();
    }

    private static void save() {
        PlateBeats x = new PlateBeats();
        for (int slot : BAD_SLOTS) {
            Check.due("32: bad slot", x.save(slot), BAD);
        }
        Check.due("32: no plates", x.save(0), 0);
        x.addPlate(3, 1);
        Check.due("32: one plate", x.save(1), 1);
        Check.due("32: no action", x.historySize(), 1);
        x.addPlate(4, 1);
        Check.due("32: in place of what is there", x.save(1), 2);
        x.undo();
        Check.due("32: undo leaves the slots", x.restore(1), 2);
        Check.due("32: slot 0 stays", x.restore(0), 0);
    }

    private static void restore() {
        PlateBeats x = new PlateBeats();
        for (int slot : BAD_SLOTS) {
            Check.due("33: bad slot", x.restore(slot), BAD);
        }
        Check.due("33: empty", x.restore(0), PlateBeats.ILLEGAL_STATE);
        x.addPlate(3, 1);
        x.save(0);
        Check.due("33: the other one is empty", x.restore(1), PlateBeats.ILLEGAL_STATE);
        Check.due("33: errors record nothing", x.historySize(), 1);
        x.setScreen(0, 7, 7);
        x.addPlate(1, 1);
        Check.due("33: plates then", x.restore(0), 1);
        Check.due("33: screen then", x.cellP(0), 3);
        Check.due("33: an action", x.historySize(), 4);
        x.setScreen(0, 9, 9);
        Check.due("33: the slot keeps it", x.restore(0), 1);
        Check.due("33: the slot is a copy", x.cellArea(0), 10);
        Check.due("35: undo of restore", x.undo(), 4);
        Check.due("35: state before it", x.cellArea(0), 162);
    }

    private static void historyOfFive() {
        PlateBeats x = new PlateBeats();
        x.addPlate(1, 0);
        for (int p = 2; p <= 9; p++) {
            x.setScreen(0, p, 0);
            Check.due("34: at most 5", x.historySize(), Math.min(p, 5));
        }
        for (int k = 4; k >= 0; k--) {
            Check.due("35: left", x.undo(), k);
            Check.due("35: screen", x.cellP(0), 4 + k);
            Check.due("34: size", x.historySize(), k);
        }
        Check.due("35: empty", x.undo(), PlateBeats.ILLEGAL_STATE);
        Check.due("35: errors change nothing", x.cellP(0), 4);
        x.setScreen(0, 20, 20);
        Check.due("34: goes on", x.historySize(), 1);
        Check.due("35: goes on", x.undo(), 0);
        Check.due("35: back", x.cellP(0), 4);
    }

    private static void everyAction() {
        PlateBeats x = new PlateBeats();
        x.addPlate(5, 5);
        Check.due("34: addPlate", x.historySize(), 1);
        x.setScreen(0, 5, 5);
        Check.due("34: setScreen without a change", x.historySize(), 2);
        x.setOrder(1);
        Check.due("34: setOrder without a change", x.historySize(), 3);
        x.setLimits(10, 500);
        Check.due("34: setLimits without a change", x.historySize(), 4);
        x.removePlate(0);
        Check.due("34: removePlate", x.historySize(), 5);
        x.undo();
        x.undo();
        x.save(0);
        Check.due("34: save and undo record nothing", x.historySize(), 3);
        x.restore(0);
        Check.due("34: restore without a change", x.historySize(), 4);
        x.bestScreen(0, 1, 800);
        x.bandsWithBest(0, 1, 800);
        x.allBands();
        x.worstPlates();
        Check.due("34: queries record nothing", x.historySize(), 4);
    }

    private static void wholeState() {
        PlateBeats x = new PlateBeats();
        x.addPlate(5, 3);
        x.setOrder(2);
        x.setLimits(20, 30);
        x.save(1);
        x.setLimits(40, 50);
        x.setOrder(1);
        x.undo();
        x.undo();
        Check.due("35: limit", x.longLimit(), 30);
        x.setLimits(60, 70);
        x.setOrder(1);
        x.removePlate(0);
        x.restore(1);
        Check.due("33: plate", x.cellQ(0), 3);
        Check.due("33: long limit", x.longLimit(), 30);
        Check.due("33: fine limit", x.setLimits(1, 2), 20);
        Check.due("33: order", x.setOrder(1), 2);
        x.undo();
        x.undo();
        Check.due("35: order", x.setOrder(1), 2);
        Check.due("35: fine limit", x.setLimits(1, 2), 20);
    }
}
