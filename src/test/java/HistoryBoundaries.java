/** Boundaries of promises 32 to 35 and of every action: slots and history. */
final class HistoryBoundaries {
    private static final int BAD = PlateBeats.INVALID_ARGUMENT;
    private static final int STATE = PlateBeats.ILLEGAL_STATE;
    private static final int LEAST = Integer.MIN_VALUE;
    private static final int GREATEST = Integer.MAX_VALUE;

    private HistoryBoundaries() {
    }

    static void run() {
        saveSlot();
        saveCount();
        saveInPlace();
        saveIsNoAction();
        restoreSlot();
        restoreEmpty();
        emptyAtFirst();
        restoreCount();
        slotKeeps();
        slotIsNoState();
        atMostFive();
        sixthDropsOldest();
        action("Adds a plate. This is an action.", 2, x -> x.addPlate(1, 0), x -> x.addPlate(0, 0));
        action("Gives a plate another cell vector. This is an action.", 3, x -> x.setScreen(1, 1, 0), x -> x.setScreen(2, 1, 0));
        action("Removes a plate. This is an action.", 4, x -> x.removePlate(1), x -> x.removePlate(2));
        action("Sets the order. This is an action.", 12, x -> x.setOrder(2), x -> x.setOrder(3));
        action("Sets the limits. This is an action.", 13, x -> x.setLimits(1, 2), x -> x.setLimits(1, 1));
        action("which keeps it. This is an action.", 33, x -> x.restore(0), x -> x.restore(1));
        unchanged(3, x -> x.setScreen(0, 5, 5), x -> x.cellP(0));
        unchanged(12, x -> x.setOrder(1), x -> x.allBands());
        unchanged(13, x -> x.setLimits(10, 500), x -> x.longLimit());
        unchanged(33, x -> x.restore(0), x -> x.save(0));
        historySize();
        undoEmpty();
        undoLeft();
        undoRestores();
        undoIsNoAction();
        undoOfRestore();
        undoAfterOthers();
    }

    private static void saveSlot() {
        new Boundary("- `slot`: 0 or 1", 32)
                .beyond("least int", Planners.equal(2).save(LEAST), BAD)
                .beyond("-1", Planners.equal(2).save(-1), BAD)
                .within("0", Planners.equal(2).save(0), 2)
                .within("1", Planners.equal(2).save(1), 2)
                .beyond("2", Planners.equal(2).save(2), BAD)
                .beyond("greatest int", Planners.equal(2).save(GREATEST), BAD);
    }

    private static void saveCount() {
        Boundary b = new Boundary("Returns the number of plates; INVALID_ARGUMENT if slot is out of range.", 32);
        for (int count = 0; count <= 4; count++) {
            b.within("plates", Planners.equal(count).save(0), count);
            b.within("plates", Planners.equal(count).save(1), count);
            b.beyond("a slot that is not there", Planners.equal(count).save(2), BAD);
        }
    }

    private static void saveInPlace() {
        PlateBeats x = Planners.different(1);
        x.save(0);
        x.save(1);
        x.addPlate(3, 4);
        x.save(0);
        new Boundary("in place of what is there", 32)
                .within("saved again: plates", x.restore(0), 2)
                .within("saved again: area", x.cellArea(1), 25)
                .beyond("the other slot: plates", x.restore(1), 1)
                .beyond("the other slot: no second plate", x.cellArea(1), BAD);
    }

    private static void saveIsNoAction() {
        PlateBeats x = new PlateBeats();
        x.save(0);
        Boundary b = new Boundary("This is no action.", 32).within("an empty history stays", x.historySize(), 0);
        for (int k = 0; k < 5; k++) {
            x.setOrder(k % 2 + 1);
        }
        x.save(0);
        x.save(1);
        b.within("a full history stays", x.historySize(), 5);
        x.undo();
        x.save(0);
        b.within("4 stay", x.historySize(), 4);
        x.restore(0);
        b.beyond("restore is one", x.historySize(), 5);
    }

    private static PlateBeats withBothSlots() {
        PlateBeats x = Planners.equal(2);
        x.save(0);
        x.save(1);
        return x;
    }

    private static void restoreSlot() {
        new Boundary("- `slot`: 0 or 1", 33)
                .beyond("least int", withBothSlots().restore(LEAST), BAD)
                .beyond("-1", withBothSlots().restore(-1), BAD)
                .within("0", withBothSlots().restore(0), 2)
                .within("1", withBothSlots().restore(1), 2)
                .beyond("2", withBothSlots().restore(2), BAD)
                .beyond("greatest int", withBothSlots().restore(GREATEST), BAD);
    }

    private static void restoreEmpty() {
        PlateBeats x = Planners.equal(3);
        Boundary b = new Boundary("ILLEGAL_STATE if the slot is empty", 33)
                .within("slot 0 of a new one", new PlateBeats().restore(0), STATE)
                .within("slot 1 of a new one", new PlateBeats().restore(1), STATE);
        x.save(1);
        b.within("slot 0 when 1 is saved", x.restore(0), STATE).beyond("slot 1 when 1 is saved", x.restore(1), 3);
        x.save(0);
        b.beyond("slot 0 when it is saved", x.restore(0), 3);
        PlateBeats none = new PlateBeats();
        none.save(0);
        b.beyond("a slot that keeps a state without plates", none.restore(0), 0);
    }

    private static void emptyAtFirst() {
        PlateBeats x = Planners.different(2);
        Boundary b = new Boundary("There are two slots, 0 and 1, empty at first; a slot keeps a copy of a state.", 32, 33)
                .within("0 at first", x.restore(0), STATE)
                .within("1 at first", x.restore(1), STATE);
        x.save(0);
        x.setScreen(0, 20, 20);
        x.removePlate(1);
        b.beyond("plates of the copy", x.restore(0), 2)
                .beyond("first p of the copy", x.cellP(0), 11)
                .beyond("second p of the copy", x.cellP(1), 12)
                .within("1 is still empty", x.restore(1), STATE)
                .within("there is no slot 2", x.restore(2), BAD);
    }

    private static void restoreCount() {
        Boundary b = new Boundary("Returns the number of plates then", 33);
        for (int count = 0; count <= 4; count++) {
            PlateBeats x = Planners.equal(count);
            x.save(0);
            if (count < 4) {
                x.addPlate(3, 3);
                b.beyond("plates before", x.plateCount(), count + 1);
            } else {
                x.removePlate(0);
                b.beyond("plates before", x.plateCount(), 3);
            }
            b.within("plates then", x.restore(0), count);
            b.within("plates", x.plateCount(), count);
        }
    }

    private static void slotKeeps() {
        PlateBeats x = Planners.different(1);
        x.save(0);
        Boundary b = new Boundary("Restores the state in a slot, which keeps it.", 33);
        for (int time = 1; time <= 7; time++) {
            x.setScreen(0, time, 0);
            b.beyond("changed", x.cellP(0), time);
            b.within("time " + time, x.restore(0), 1);
            b.within("p, time " + time, x.cellP(0), 11);
        }
    }

    /** The slots are filled behind the states in the history; undo leaves them. */
    private static void slotIsNoState() {
        PlateBeats x = Planners.different(1);
        x.addPlate(3, 4);
        x.save(0);
        x.undo();
        x.undo();
        Boundary b = new Boundary("a state is everything but the history and the slots", 33, 34, 35)
                .within("no plates", x.plateCount(), 0)
                .within("undo does not empty a slot", x.restore(0), 2)
                .within("restore does not bring the history of then", x.historySize(), 1);
        x.setOrder(2);
        x.setLimits(20, 30);
        x.undo();
        x.undo();
        b.beyond("the long limit is of it", x.longLimit(), 500)
                .beyond("the order is of it", x.setOrder(1), 1)
                .beyond("the fine limit is of it", x.setLimits(10, 500), 10)
                .beyond("the plates are of it", x.plateCount(), 2);
    }

    private static void atMostFive() {
        PlateBeats x = new PlateBeats();
        Boundary b = new Boundary("A history of at most 5 states is kept", 34);
        for (int k = 1; k <= 5; k++) {
            x.setOrder(1);
            b.within(k + " actions", x.historySize(), k);
        }
        for (int k = 6; k <= 12; k++) {
            x.setOrder(1);
            b.beyond(k + " actions", x.historySize(), 5);
        }
    }

    /** Before the action k the limit is k + 1 (500 before the first one). */
    private static void sixthDropsOldest() {
        Boundary b = new Boundary("when a sixth one is recorded, the oldest one is dropped", 34, 35);
        for (int actions = 5; actions <= 8; actions++) {
            PlateBeats x = new PlateBeats();
            for (int k = 1; k <= actions; k++) {
                x.setLimits(1, k + 2);
            }
            for (int left = 4; left >= 0; left--) {
                b.within("left of " + actions, x.undo(), left);
            }
            b.within("none left of " + actions, x.undo(), STATE);
            if (actions == 5) {
                b.beyond("five actions: the first state is kept", x.longLimit(), 500);
            } else {
                b.within(actions + " actions: as it was 5 actions ago", x.longLimit(), actions - 3);
            }
        }
    }

    private interface Call {
        long ask(PlateBeats x);
    }

    /** Two plates (5, 5), slot 0 filled with them, slot 1 empty. */
    private static PlateBeats savedPlates() {
        PlateBeats x = Planners.of(5, 5, 5, 5);
        x.save(0);
        return x;
    }

    private static void action(String sentence, int promise, Call done, Call refused) {
        PlateBeats x = savedPlates();
        Boundary b = new Boundary(sentence, promise);
        refused.ask(x);
        b.beyond("a refused call is not recorded", x.historySize(), 2);
        done.ask(x);
        b.within("a call that is done is recorded", x.historySize(), 3)
                .within("undo", x.undo(), 2)
                .within("plates before it", x.plateCount(), 2)
                .within("area before it", x.cellArea(1), 50)
                .within("long limit before it", x.longLimit(), 500)
                .within("fine limit before it", x.setLimits(10, 500), 10)
                .within("order before it", x.setOrder(1), 1);
    }

    private static void unchanged(int promise, Call action, Call other) {
        PlateBeats x = savedPlates();
        Boundary b = new Boundary("(also if nothing changes by it)", promise);
        action.ask(x);
        b.within("recorded", x.historySize(), 3);
        action.ask(x);
        b.within("recorded again", x.historySize(), 4);
        other.ask(x);
        b.beyond("no action", x.historySize(), 4);
        b.within("undo", x.undo(), 3).within("undo again", x.undo(), 2).within("plates", x.plateCount(), 2);
    }

    private static void historySize() {
        PlateBeats x = new PlateBeats();
        Boundary b = new Boundary("Returns the number of states in the history.", 34).within("new", x.historySize(), 0);
        x.addPlate(0, 0);
        x.removePlate(0);
        x.setOrder(0);
        x.restore(0);
        x.undo();
        b.beyond("after refused calls", x.historySize(), 0);
        x.addPlate(1, 1);
        b.within("after one action", x.historySize(), 1);
        for (int k = 0; k < 4; k++) {
            x.setScreen(0, 1, k);
        }
        b.within("full", x.historySize(), 5);
        x.setScreen(0, 21, 0);
        b.beyond("full, after a refused call", x.historySize(), 5);
        x.undo();
        b.within("after undo", x.historySize(), 4);
    }

    private static void undoEmpty() {
        PlateBeats x = new PlateBeats();
        Boundary b = new Boundary("ILLEGAL_STATE if it is empty", 35)
                .within("new", x.undo(), STATE)
                .within("again", x.undo(), STATE);
        x.addPlate(1, 1);
        b.beyond("one state", x.undo(), 0).within("none", x.undo(), STATE);
        x.addPlate(1, 1);
        x.addPlate(2, 2);
        b.beyond("two states", x.undo(), 1).beyond("one state", x.undo(), 0).within("none", x.undo(), STATE);
        x.save(0);
        b.within("save records nothing", x.undo(), STATE);
        x.restore(0);
        b.beyond("restore records one", x.undo(), 0).within("none", x.undo(), STATE);
    }

    private static void undoLeft() {
        Boundary b = new Boundary("Returns the number of states that are left in the history", 35);
        for (int actions = 1; actions <= 7; actions++) {
            PlateBeats x = new PlateBeats();
            for (int k = 0; k < actions; k++) {
                x.setOrder(2);
            }
            for (int left = Math.min(actions, 5) - 1; left >= 0; left--) {
                b.within("of " + actions, x.undo(), left);
                b.within("size, of " + actions, x.historySize(), left);
            }
            b.beyond("none left of " + actions, x.undo(), STATE);
            b.beyond("size, of " + actions, x.historySize(), 0);
        }
    }

    private static void undoRestores() {
        PlateBeats x = Planners.different(4);
        x.removePlate(0);
        Boundary b = new Boundary("Removes the latest state from the history and restores it.", 35)
                .beyond("p before undo", x.cellP(0), 12)
                .within("of a full history", x.undo(), 4)
                .within("plates", x.plateCount(), 4);
        for (int plate = 0; plate < 4; plate++) {
            b.within("p", x.cellP(plate), 11 + plate).within("q", x.cellQ(plate), 1 + plate);
        }
        for (int left = 3; left >= 0; left--) {
            b.within("left", x.undo(), left).within("plates", x.plateCount(), left);
        }
    }

    private static void undoIsNoAction() {
        PlateBeats x = new PlateBeats();
        for (int k = 1; k <= 6; k++) {
            x.setLimits(k, k + 1);
        }
        x.undo();
        x.undo();
        Boundary b = new Boundary("undo() removes the latest state from the history and restores it.", 34, 35)
                .within("two undone of a full history", x.historySize(), 3)
                .within("limit then", x.longLimit(), 5);
        x.setLimits(20, 21);
        b.beyond("an action records one more", x.historySize(), 4);
        b.within("undo", x.undo(), 3).within("the state before it", x.longLimit(), 5);
        b.within("undo", x.undo(), 2).within("the state before that", x.longLimit(), 4);
    }

    private static void undoOfRestore() {
        PlateBeats x = Planners.different(1);
        x.save(1);
        x.setScreen(0, 20, 20);
        x.setOrder(2);
        x.setLimits(30, 40);
        x.restore(1);
        Boundary b = new Boundary("Restores the state in a slot, which keeps it. This is an action.", 33, 35)
                .beyond("restored", x.cellArea(0), 122)
                .beyond("restored limit", x.longLimit(), 500)
                .beyond("recorded", x.historySize(), 5)
                .within("undone", x.undo(), 4)
                .within("area before it", x.cellArea(0), 800)
                .within("limit before it", x.longLimit(), 40);
        b.within("fine limit before it", x.setLimits(1, 2), 30).within("order before it", x.setOrder(1), 2);
    }

    private static void undoAfterOthers() {
        PlateBeats x = Planners.limited(9, 11, 10, 0, 10, 0);
        x.bestScreen(0, 1, 800);
        x.bandsWithBest(1, 1, 800);
        x.allBands();
        x.beatCount(0, 1);
        x.save(0);
        Boundary b = new Boundary("Every successful call of a method that is called an action records the state before it", 34, 35)
                .beyond("no others", x.historySize(), 3)
                .within("undo of the latest action", x.undo(), 2)
                .within("the limit before it", x.longLimit(), 500);
        x.setLimits(9, 9);
        x.addPlate(21, 0);
        b.beyond("none that is refused", x.historySize(), 2);
        x.addPlate(20, 0);
        b.within("one that succeeds", x.historySize(), 3);
    }
}
