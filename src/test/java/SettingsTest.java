/** Promises 12 to 14: the settings. */
final class SettingsTest {
    private SettingsTest() {
    }

    static void run() {
        setOrder();
        setLimits();
        limitsOfKinds();
    }

    private static void setOrder() {
        PlateBeats x = new PlateBeats();
        for (int bad : new int[] {0, 3, -1, -2, Integer.MAX_VALUE, Integer.MIN_VALUE}) {
            Check.due("12: bad order", x.setOrder(bad), PlateBeats.INVALID_ARGUMENT);
        }
        Check.due("12: errors record nothing", x.historySize(), 0);
        Check.due("12: 1 at first", x.setOrder(2), 1);
        Check.due("12: 2 then", x.setOrder(2), 2);
        Check.due("12: records", x.historySize(), 2);
        Check.due("12: back", x.setOrder(1), 2);
        Check.due("12: 1 then", x.setOrder(1), 1);
    }

    private static void setLimits() {
        PlateBeats x = new PlateBeats();
        int[][] bad = {
            {0, 5}, {-1, 5}, {1001, 5000}, {5, 5}, {5, 4}, {5, -1}, {1000, 10001}, {1, 10001}, {1000, 1000},
            {Integer.MAX_VALUE, Integer.MIN_VALUE}, {Integer.MIN_VALUE, Integer.MAX_VALUE}, {5, Integer.MIN_VALUE}};
        for (int[] limits : bad) {
            Check.due("13: bad limits", x.setLimits(limits[0], limits[1]), PlateBeats.INVALID_ARGUMENT);
        }
        Check.due("13: errors record nothing", x.historySize(), 0);
        Check.due("14: 500 at first", x.longLimit(), 500);
        Check.due("13: 10 at first", x.setLimits(1, 2), 10);
        Check.due("14: set", x.longLimit(), 2);
        Check.due("13: least", x.setLimits(1000, 10000), 1);
        Check.due("14: greatest", x.longLimit(), 10000);
        Check.due("13: greatest", x.setLimits(1000, 1001), 1000);
        Check.due("14: just above", x.longLimit(), 1001);
        Check.due("13: records", x.historySize(), 3);
        x.undo();
        Check.due("14: undone", x.longLimit(), 10000);
    }

    /** Two plates (10, 0): every square is a whole number over 100. */
    private static void limitsOfKinds() {
        PlateBeats x = new PlateBeats();
        x.addPlate(10, 0);
        x.addPlate(10, 0);
        x.setLimits(10, 11);
        Check.due("13: fine at its limit", x.kind(0, 1, 1, 1, 0, 1), 1);
        x.setLimits(9, 10);
        Check.due("13: long at its limit", x.kind(0, 1, 1, 1, 0, 1), 2);
        x.setLimits(9, 11);
        Check.due("13: between them", x.kind(0, 1, 1, 1, 0, 1), 3);
        Check.due("13: locked", x.kind(0, 1, 1, 1, 1, 1), 0);
    }
}
