/** Boundaries of promises 12 to 14: the settings. */
final class SettingBoundaries {
    private static final int BAD = PlateBeats.INVALID_ARGUMENT;
    private static final int LEAST = Integer.MIN_VALUE;
    private static final int GREATEST = Integer.MAX_VALUE;

    private SettingBoundaries() {
    }

    static void run() {
        order();
        orderAtFirst();
        fine();
        fineAtFirst();
        longLimit();
        longLimitBehindFine();
        longLimitAtFirst();
        longLimitStays();
    }

    private static void order() {
        new Boundary("- `order`: 1 or 2", 12)
                .beyond("least int", new PlateBeats().setOrder(LEAST), BAD)
                .beyond("-1", new PlateBeats().setOrder(-1), BAD)
                .beyond("0", new PlateBeats().setOrder(0), BAD)
                .within("1", new PlateBeats().setOrder(1), 1)
                .within("2", new PlateBeats().setOrder(2), 1)
                .beyond("3", new PlateBeats().setOrder(3), BAD)
                .beyond("greatest int", new PlateBeats().setOrder(GREATEST), BAD);
    }

    private static void orderAtFirst() {
        PlateBeats x = Planners.equal(2);
        new Boundary("The order is 1 or 2 (1 at first).", 12)
                .within("new: 1 is in range", x.kind(0, 1, 1, 0, 1, 0), 0)
                .within("new: 2 is not", x.kind(0, 1, 2, 0, 2, 0), BAD)
                .within("previous", x.setOrder(2), 1)
                .beyond("2 is in range", x.kind(0, 1, 2, 0, 2, 0), 0)
                .beyond("3 is not", x.kind(0, 1, 3, 0, 3, 0), BAD)
                .beyond("refused", x.setOrder(3), BAD)
                .beyond("previous", x.setOrder(1), 2)
                .within("2 is out of range again", x.kind(0, 1, 2, 0, 2, 0), BAD)
                .within("previous", x.setOrder(1), 1);
    }

    private static void fine() {
        new Boundary("- `fine`: 1 to 1000", 13)
                .beyond("least int", new PlateBeats().setLimits(LEAST, 5000), BAD)
                .beyond("-1", new PlateBeats().setLimits(-1, 5000), BAD)
                .beyond("0", new PlateBeats().setLimits(0, 5000), BAD)
                .within("1", new PlateBeats().setLimits(1, 5000), 10)
                .within("1000", new PlateBeats().setLimits(1000, 5000), 10)
                .beyond("1001", new PlateBeats().setLimits(1001, 5000), BAD)
                .beyond("greatest int", new PlateBeats().setLimits(GREATEST, 5000), BAD);
    }

    /** The squares are 2 / 200, 925 / 92501 and 1600 / 159993. */
    private static void fineAtFirst() {
        PlateBeats x = new PlateBeats();
        new Boundary("The fine limit F is 1 to 1000 (10 at first)", 13)
                .within("1 / 100 is fine at first", Planners.of(1, 3, 2, 4).kind(0, 1, 1, 0, 1, 0), 1)
                .within("more is fine at first", Planners.of(6, 15, 18, 17).kind(0, 1, 1, 0, -1, 0), 1)
                .beyond("less is not", Planners.of(6, 19, 13, 8).kind(0, 1, 1, 1, -1, 0), 3)
                .within("previous at first", x.setLimits(1000, 10000), 10)
                .within("previous", x.setLimits(1, 2), 1000)
                .beyond("refused", x.setLimits(0, 2), BAD)
                .within("previous", x.setLimits(10, 500), 1);
    }

    private static void longLimit() {
        PlateBeats x = Planners.limited(5, 6);
        new Boundary("- `longLimit`: fine + 1 to 10000", 13)
                .beyond("least int", x.setLimits(10, LEAST), BAD)
                .beyond("0", x.setLimits(10, 0), BAD)
                .beyond("fine - 1", x.setLimits(10, 9), BAD)
                .beyond("fine", x.setLimits(10, 10), BAD)
                .within("fine + 1", x.setLimits(10, 11), 5)
                .within("10000", x.setLimits(10, 10000), 10)
                .beyond("10001", x.setLimits(10, 10001), BAD)
                .beyond("greatest int", x.setLimits(10, GREATEST), BAD)
                .within("it stays", x.longLimit(), 10000);
    }

    private static void longLimitBehindFine() {
        PlateBeats x = new PlateBeats();
        new Boundary("the long limit L is greater than F and at most 10000", 13, 14)
                .beyond("1, 1", x.setLimits(1, 1), BAD)
                .within("1, 2", x.setLimits(1, 2), 10)
                .within("the smallest one", x.longLimit(), 2)
                .beyond("1000, 1000", x.setLimits(1000, 1000), BAD)
                .within("1000, 1001", x.setLimits(1000, 1001), 1)
                .within("greater than the greatest F", x.longLimit(), 1001)
                .within("1000, 10000", x.setLimits(1000, 10000), 1000)
                .within("the greatest one", x.longLimit(), 10000)
                .beyond("1000, 10001", x.setLimits(1000, 10001), BAD)
                .beyond("both out of range", x.setLimits(GREATEST, LEAST), BAD);
    }

    /** The squares are 1 / 249418 and 1 / 251122: the long limit at first is between their roots, 499 and 501. */
    private static void longLimitAtFirst() {
        PlateBeats x = Planners.of(1, 19, 20, 17);
        PlateBeats y = Planners.of(11, 19, 11, 20);
        Boundary b = new Boundary("at most 10000 (500 at first)", 14)
                .within("new", x.longLimit(), 500)
                .within("1 / 249418 is not long", x.kind(0, 1, 1, 0, 1, 1), 3)
                .within("1 / 251122 is long", y.kind(0, 1, 1, 0, 1, 0), 2);
        x.setLimits(10, 499);
        y.setLimits(10, 502);
        b.beyond("then", x.longLimit(), 499)
                .beyond("1 / 249418 is long with 499", x.kind(0, 1, 1, 0, 1, 1), 2)
                .beyond("1 / 251122 is not long with 502", y.kind(0, 1, 1, 0, 1, 0), 3);
    }

    private static void longLimitStays() {
        PlateBeats x = Planners.limited(20, 30);
        Boundary b = new Boundary("Returns the long limit.", 14).within("set", x.longLimit(), 30);
        x.setLimits(30, 30);
        b.beyond("refused", x.longLimit(), 30);
        x.setLimits(1001, 2000);
        b.beyond("refused for its fine limit", x.longLimit(), 30);
        x.setLimits(30, 31);
        b.within("set again", x.longLimit(), 31);
        x.undo();
        b.within("undone", x.longLimit(), 30);
    }
}
