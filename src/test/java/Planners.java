/** Planners to begin a test with. */
final class Planners {
    private Planners() {
    }

    /** A planner with these cell vectors: p and q of the first plate, p and q of the second one, and so on. */
    static PlateBeats of(int... pq) {
        PlateBeats x = new PlateBeats();
        for (int k = 0; k + 1 < pq.length; k += 2) {
            x.addPlate(pq[k], pq[k + 1]);
        }
        return x;
    }

    /** The same, with limits. */
    static PlateBeats limited(int fine, int longLimit, int... pq) {
        PlateBeats x = of(pq);
        x.setLimits(fine, longLimit);
        return x;
    }

    /** The same with the order 2. */
    static PlateBeats limitedAtOrder2(int fine, int longLimit, int... pq) {
        PlateBeats x = limited(fine, longLimit, pq);
        x.setOrder(2);
        return x;
    }

    /** So many plates, all (10, 0): every square is a whole number over 100. */
    static PlateBeats equal(int count) {
        PlateBeats x = new PlateBeats();
        for (int k = 0; k < count; k++) {
            x.addPlate(10, 0);
        }
        return x;
    }

    /** So many plates, (11, 1), (12, 2), (13, 3), (14, 4): no two answers about them are the same. */
    static PlateBeats different(int count) {
        PlateBeats x = new PlateBeats();
        for (int k = 0; k < count; k++) {
            x.addPlate(11 + k, 1 + k);
        }
        return x;
    }
}
