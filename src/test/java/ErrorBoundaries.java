import java.util.function.Supplier;

/** Boundaries of every call that can return an error code: it changes nothing, and the first condition listed counts. */
final class ErrorBoundaries {
    private static final int BAD = PlateBeats.INVALID_ARGUMENT;
    private static final int STATE = PlateBeats.ILLEGAL_STATE;
    private static final int FULL = PlateBeats.CAPACITY_EXCEEDED;
    private static final int NONE = PlateBeats.NONE;
    private static final int MOST_STATES = 5;

    private interface Call {
        long ask(PlateBeats x);
    }

    private ErrorBoundaries() {
    }

    static void run() {
        plates();
        settings();
        combinations();
        ranks();
        pairs();
        allPlates();
        search();
        history();
        firstOfAddPlate();
        firstOfByAngle();
        firstOfRanks();
        firstOfSearch();
        firstOfRestore();
        codes();
    }

    /** Four plates, all settings changed, slot 0 filled, slot 1 empty, a history of five. */
    private static PlateBeats full() {
        PlateBeats x = Planners.limitedAtOrder2(9, 40, 5, 5, 7, 2, 2, 7);
        x.save(0);
        x.setLimits(10, 50);
        x.addPlate(6, 0);
        return x;
    }

    /** No plates, but some settings, with an empty history. */
    private static PlateBeats bare() {
        PlateBeats x = new PlateBeats();
        x.setOrder(2);
        x.setLimits(3, 4);
        x.save(1);
        x.undo();
        x.undo();
        return x;
    }

    /** All that a planner answers, in its present state, after every undo, and after restoring each slot. */
    private static String dump(Supplier<PlateBeats> maker) {
        StringBuilder text = new StringBuilder();
        for (int undone = 0; undone <= MOST_STATES; undone++) {
            PlateBeats past = maker.get();
            for (int k = 0; k < undone; k++) {
                text.append(past.undo()).append(' ');
            }
            dumpState(past, text);
        }
        for (int slot = 0; slot < 2; slot++) {
            PlateBeats kept = maker.get();
            text.append("\nslot ").append(kept.restore(slot));
            dumpState(kept, text);
        }
        return text.toString();
    }

    private static void dumpState(PlateBeats x, StringBuilder text) {
        text.append('\n').append(x.plateCount()).append(' ').append(x.historySize()).append(' ').append(x.longLimit());
        for (int plate = 0; plate < 4; plate++) {
            text.append(" (").append(x.cellP(plate)).append(", ").append(x.cellQ(plate)).append(')');
        }
        text.append(' ').append(x.allBands()).append(' ').append(x.worstPeriod()).append(' ');
        text.append(x.setOrder(1)).append(' ').append(x.setLimits(1, 2));
    }

    private static Supplier<PlateBeats> after(Supplier<PlateBeats> maker, Call call) {
        return () -> {
            PlateBeats x = maker.get();
            call.ask(x);
            return x;
        };
    }

    private static Boundary nothingChanges(int promise) {
        return new Boundary("A call that returns an error code changes nothing.", promise);
    }

    private static void refused(Boundary b, Supplier<PlateBeats> maker, int due, Call... calls) {
        String before = dump(maker);
        for (int k = 0; k < calls.length; k++) {
            b.within("refused call " + k, calls[k].ask(maker.get()), due);
            b.within("state after refused call " + k, dump(after(maker, calls[k])).equals(before) ? 1 : 0, 1);
        }
    }

    /** An action that is done changes the state: at least its history. */
    private static void done(Boundary b, Supplier<PlateBeats> maker, long due, Call call) {
        b.beyond("call that is done", call.ask(maker.get()), due);
        b.beyond("state after a call that is done", dump(after(maker, call)).equals(dump(maker)) ? 1 : 0, 0);
    }

    /** A question that is answered changes nothing either. */
    private static void answered(Boundary b, Supplier<PlateBeats> maker, long due, Call call) {
        b.beyond("call that is answered", call.ask(maker.get()), due);
        b.beyond("state after a call that is answered", dump(after(maker, call)).equals(dump(maker)) ? 1 : 0, 1);
    }

    private static void plates() {
        Boundary add = nothingChanges(2);
        refused(add, ErrorBoundaries::full, FULL, x -> x.addPlate(3, 3));
        refused(add, ErrorBoundaries::full, BAD, x -> x.addPlate(0, 3));
        refused(add, ErrorBoundaries::bare, BAD, x -> x.addPlate(21, 3), x -> x.addPlate(3, -1), x -> x.addPlate(3, 21));
        done(add, ErrorBoundaries::bare, 0, x -> x.addPlate(3, 3));
        Boundary set = nothingChanges(3);
        refused(set, ErrorBoundaries::full, BAD, x -> x.setScreen(-1, 3, 3), x -> x.setScreen(4, 3, 3),
                x -> x.setScreen(0, 0, 3), x -> x.setScreen(0, 21, 3), x -> x.setScreen(0, 3, -1), x -> x.setScreen(0, 3, 21));
        refused(set, ErrorBoundaries::bare, BAD, x -> x.setScreen(0, 3, 3));
        done(set, ErrorBoundaries::full, 36, x -> x.setScreen(3, 3, 3));
        Boundary remove = nothingChanges(4);
        refused(remove, ErrorBoundaries::full, BAD, x -> x.removePlate(-1), x -> x.removePlate(4));
        refused(remove, ErrorBoundaries::bare, BAD, x -> x.removePlate(0));
        done(remove, ErrorBoundaries::full, 3, x -> x.removePlate(3));
        onePlate(6, PlateBeats::cellP, 6);
        onePlate(7, PlateBeats::cellQ, 0);
        onePlate(8, PlateBeats::cellArea, 36);
        onePlate(9, PlateBeats::tile, 6);
        Boundary angle = nothingChanges(11);
        refused(angle, ErrorBoundaries::full, BAD, x -> x.byAngle(-1));
        refused(angle, ErrorBoundaries::full, NONE, x -> x.byAngle(4));
        refused(angle, ErrorBoundaries::bare, NONE, x -> x.byAngle(0));
        answered(angle, ErrorBoundaries::full, 2, x -> x.byAngle(3));
    }

    private interface OfPlate {
        long ask(PlateBeats x, int plate);
    }

    private static void onePlate(int promise, OfPlate call, long due) {
        Boundary b = nothingChanges(promise);
        refused(b, ErrorBoundaries::full, BAD, x -> call.ask(x, -1), x -> call.ask(x, 4));
        refused(b, ErrorBoundaries::bare, BAD, x -> call.ask(x, 0));
        answered(b, ErrorBoundaries::full, due, x -> call.ask(x, 3));
    }

    private static void settings() {
        Boundary order = nothingChanges(12);
        refused(order, ErrorBoundaries::full, BAD, x -> x.setOrder(0), x -> x.setOrder(3));
        done(order, ErrorBoundaries::full, 2, x -> x.setOrder(1));
        Boundary limits = nothingChanges(13);
        refused(limits, ErrorBoundaries::full, BAD, x -> x.setLimits(0, 60), x -> x.setLimits(1001, 2000),
                x -> x.setLimits(20, 20), x -> x.setLimits(20, 10001));
        done(limits, ErrorBoundaries::full, 10, x -> x.setLimits(20, 60));
    }

    private interface OfCombination {
        long ask(PlateBeats x, int i, int j, int a, int b, int c, int d);
    }

    private static void combinations() {
        combination(15, PlateBeats::squareNumerator, 13);
        combination(16, PlateBeats::squareDenominator, 2650);
        combination(17, PlateBeats::kind, 3);
    }

    private static void combination(int promise, OfCombination call, long due) {
        Boundary b = nothingChanges(promise);
        refused(b, ErrorBoundaries::full, BAD, x -> call.ask(x, 1, 0, 1, 0, 1, 0), x -> call.ask(x, 0, 4, 1, 0, 1, 0),
                x -> call.ask(x, 0, 1, 3, 0, 1, 0), x -> call.ask(x, 0, 1, 0, 0, 1, 0), x -> call.ask(x, 0, 1, 1, 0, 0, 0));
        refused(b, ErrorBoundaries::bare, BAD, x -> call.ask(x, 0, 1, 1, 0, 1, 0));
        answered(b, ErrorBoundaries::full, due, x -> call.ask(x, 0, 1, 1, 0, 1, 0));
    }

    private interface OfRank {
        long ask(PlateBeats x, int i, int j, int rank);
    }

    private static PlateBeats equal() {
        return Planners.limited(9, 11, 10, 0, 10, 0);
    }

    private static void ranks() {
        rank(19, PlateBeats::beatNumerator, 1);
        rank(20, PlateBeats::beatDenominator, 100);
        rank(21, PlateBeats::beatFrequency, 16);
        rank(22, PlateBeats::beatPeriod, 10);
    }

    private static void rank(int promise, OfRank call, long due) {
        Boundary b = nothingChanges(promise);
        refused(b, ErrorBoundaries::equal, BAD, x -> call.ask(x, 1, 0, 0), x -> call.ask(x, 0, 2, 0),
                x -> call.ask(x, 0, 1, -1));
        refused(b, ErrorBoundaries::equal, NONE, x -> call.ask(x, 0, 1, 6));
        refused(b, ErrorBoundaries::bare, BAD, x -> call.ask(x, 0, 1, 0));
        if (promise == 22) {
            refused(b, ErrorBoundaries::equal, NONE, x -> call.ask(x, 0, 1, 0));
        }
        answered(b, ErrorBoundaries::equal, due, x -> call.ask(x, 0, 1, 1));
    }

    private interface OfPair {
        long ask(PlateBeats x, int i, int j);
    }

    private static void pairs() {
        pair(18, PlateBeats::beatCount, 6);
        pair(23, PlateBeats::locked, 8);
        pair(24, PlateBeats::bands, 16);
    }

    private static void pair(int promise, OfPair call, long due) {
        Boundary b = nothingChanges(promise);
        refused(b, ErrorBoundaries::equal, BAD, x -> call.ask(x, 1, 0), x -> call.ask(x, 0, 2), x -> call.ask(x, -1, 1));
        refused(b, ErrorBoundaries::bare, BAD, x -> call.ask(x, 0, 1));
        answered(b, ErrorBoundaries::equal, due, x -> call.ask(x, 0, 1));
    }

    private static void allPlates() {
        Boundary triple = nothingChanges(25);
        refused(triple, ErrorBoundaries::full, BAD, x -> x.tripleBands(0, 0, 1), x -> x.tripleBands(0, 1, 4),
                x -> x.tripleBands(2, 1, 0), x -> x.tripleBands(-1, 0, 1));
        refused(triple, ErrorBoundaries::bare, BAD, x -> x.tripleBands(0, 1, 2));
        answered(triple, () -> Planners.limited(9, 11, 10, 0, 10, 0, 10, 0), 36, x -> x.tripleBands(0, 1, 2));
        worst(27, PlateBeats::worstPlates, 3);
        worst(28, PlateBeats::worstPeriod, 10);
        worst(29, PlateBeats::worstPair, 1);
    }

    private static void worst(int promise, Call call, long due) {
        Boundary b = nothingChanges(promise);
        refused(b, ErrorBoundaries::bare, NONE, call);
        refused(b, () -> Planners.limited(9, 11, 10, 0), NONE, call);
        answered(b, ErrorBoundaries::equal, due, call);
    }

    private static void search() {
        searchCall(30, PlateBeats::bestScreen, 200);
        searchCall(31, PlateBeats::bandsWithBest, 4);
    }

    private static void searchCall(int promise, OfSearch call, long due) {
        Boundary b = nothingChanges(promise);
        refused(b, ErrorBoundaries::full, BAD, x -> call.ask(x, 4, 1, 800), x -> call.ask(x, -1, 1, 800),
                x -> call.ask(x, 0, 0, 800), x -> call.ask(x, 0, 1, 801), x -> call.ask(x, 0, 5, 4));
        refused(b, ErrorBoundaries::full, NONE, x -> call.ask(x, 0, 3, 3), x -> call.ask(x, 3, 762, 799));
        refused(b, ErrorBoundaries::bare, BAD, x -> call.ask(x, 0, 1, 800));
        answered(b, () -> Planners.limited(3, 7, 5, 4, 2, 1), due, x -> call.ask(x, 1, 3, 9));
    }

    private interface OfSearch {
        long ask(PlateBeats x, int plate, int low, int high);
    }

    private static void history() {
        Boundary save = nothingChanges(32);
        refused(save, ErrorBoundaries::full, BAD, x -> x.save(-1), x -> x.save(2));
        done(save, ErrorBoundaries::full, 4, x -> x.save(1));
        Boundary restore = nothingChanges(33);
        refused(restore, ErrorBoundaries::full, BAD, x -> x.restore(-1), x -> x.restore(2));
        refused(restore, ErrorBoundaries::full, STATE, x -> x.restore(1));
        refused(restore, ErrorBoundaries::bare, STATE, x -> x.restore(0));
        done(restore, ErrorBoundaries::full, 3, x -> x.restore(0));
        Boundary undo = nothingChanges(35);
        refused(undo, ErrorBoundaries::bare, STATE, PlateBeats::undo);
        refused(undo, PlateBeats::new, STATE, PlateBeats::undo);
        done(undo, ErrorBoundaries::full, 4, PlateBeats::undo);
    }

    private static Boundary firstListed(int promise) {
        return new Boundary("If several error conditions apply, the method returns the one that its description lists first.",
                promise);
    }

    private static void firstOfAddPlate() {
        firstListed(2)
                .within("p too small, 4 plates", full().addPlate(0, 3), BAD)
                .within("p too great, 4 plates", full().addPlate(21, 3), BAD)
                .within("q too small, 4 plates", full().addPlate(3, -1), BAD)
                .within("q too great, 4 plates", full().addPlate(3, 21), BAD)
                .beyond("4 plates alone", full().addPlate(20, 20), FULL)
                .beyond("p too small alone", Planners.equal(3).addPlate(0, 3), BAD);
    }

    private static void firstOfByAngle() {
        firstListed(11)
                .within("rank negative, no plates", bare().byAngle(-1), BAD)
                .within("rank negative, 4 plates", full().byAngle(-1), BAD)
                .beyond("no plates alone", bare().byAngle(0), NONE)
                .beyond("4 plates", full().byAngle(4), NONE);
    }

    private static void firstOfRanks() {
        firstOfRank(19, PlateBeats::beatNumerator);
        firstOfRank(20, PlateBeats::beatDenominator);
        firstOfRank(21, PlateBeats::beatFrequency);
        firstOfRank(22, PlateBeats::beatPeriod);
    }

    private static void firstOfRank(int promise, OfRank call) {
        firstListed(promise)
                .within("no such plates, rank too great", call.ask(equal(), 0, 2, 600), BAD)
                .within("i is j, rank too great", call.ask(equal(), 1, 1, 600), BAD)
                .within("i greater than j, rank too great", call.ask(equal(), 1, 0, 600), BAD)
                .within("no plates, rank too great", call.ask(bare(), 0, 1, Integer.MAX_VALUE), BAD)
                .within("i greater than j, the square would be 0", call.ask(equal(), 1, 0, 0), BAD)
                .within("rank negative", call.ask(equal(), 0, 1, -1), BAD)
                .beyond("rank too great alone", call.ask(equal(), 0, 1, 600), NONE);
    }

    private static void firstOfSearch() {
        firstOfSearchCall(30, PlateBeats::bestScreen);
        firstOfSearchCall(31, PlateBeats::bandsWithBest);
    }

    private static void firstOfSearchCall(int promise, OfSearch call) {
        firstListed(promise)
                .within("no such plate, no such area", call.ask(full(), 4, 3, 3), BAD)
                .within("no plates, no such area", call.ask(bare(), 0, 3, 3), BAD)
                .within("low too small, no such area", call.ask(full(), 0, 0, 0), BAD)
                .within("high less than low, no such area", call.ask(full(), 0, 4, 3), BAD)
                .within("high too great, no such area", call.ask(full(), 0, 801, 801), BAD)
                .beyond("no such area alone", call.ask(full(), 3, 3, 3), NONE);
    }

    private static void firstOfRestore() {
        firstListed(33)
                .within("slot -1, both empty", new PlateBeats().restore(-1), BAD)
                .within("slot 2, both empty", new PlateBeats().restore(2), BAD)
                .beyond("slot 0, empty alone", new PlateBeats().restore(0), STATE)
                .beyond("slot 1, empty alone", full().restore(1), STATE);
    }

    private static void codes() {
        new Boundary("`INVALID_ARGUMENT = -1`", 3, 4).within("code", BAD, -1).beyond("as answered", bare().removePlate(0), -1);
        new Boundary("`ILLEGAL_STATE = -2`", 33, 35).within("code", STATE, -2).beyond("as answered", bare().undo(), -2);
        new Boundary("`CAPACITY_EXCEEDED = -3`", 2).within("code", FULL, -3).beyond("as answered", full().addPlate(1, 1), -3);
        new Boundary("`NONE = -4`", 27, 28, 29).within("code", NONE, -4).beyond("as answered", bare().worstPair(), -4);
    }
}
