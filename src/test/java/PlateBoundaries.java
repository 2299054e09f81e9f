import java.util.function.ToLongBiFunction;

/** Boundaries of promises 1 to 11: a new object, the plates. */
final class PlateBoundaries {
    private static final int BAD = PlateBeats.INVALID_ARGUMENT;
    private static final int FULL = PlateBeats.CAPACITY_EXCEEDED;
    private static final int NONE = PlateBeats.NONE;
    private static final int LEAST = Integer.MIN_VALUE;
    private static final int GREATEST = Integer.MAX_VALUE;

    private PlateBoundaries() {
    }

    static void run() {
        newObject();
        addPlateP();
        addPlateQ();
        addPlateRanges();
        addPlateNumbers();
        addPlateRoom();
        samePlates();
        setScreenPlate();
        setScreenRanges();
        setScreenArea();
        removePlatePlate();
        removePlateNumbers();
        removePlateLeft();
        plateCount();
        cells();
        tileOfZero();
        tileDivides();
        commonTileWithoutPlates();
        commonTileMultiple();
        byAngleRank();
        byAngleMany();
        byAngleEqual();
        byAngleSmaller();
    }

    private static void newObject() {
        PlateBeats x = new PlateBeats();
        Boundary b = new Boundary("Creates a planner without plates.", 1)
                .within("plates", x.plateCount(), 0)
                .within("history", x.historySize(), 0)
                .within("nothing to undo", x.undo(), PlateBeats.ILLEGAL_STATE)
                .within("no plate 0", x.cellP(0), BAD);
        x.addPlate(7, 2);
        b.beyond("plates after one call", x.plateCount(), 1)
                .beyond("history after one call", x.historySize(), 1)
                .beyond("plate 0", x.cellP(0), 7)
                .beyond("one to undo", x.undo(), 0);
    }

    private static void addPlateP() {
        new Boundary("- `p`: 1 to 20", 2)
                .beyond("least int", new PlateBeats().addPlate(LEAST, 5), BAD)
                .beyond("-1", new PlateBeats().addPlate(-1, 5), BAD)
                .beyond("0", new PlateBeats().addPlate(0, 5), BAD)
                .within("1", new PlateBeats().addPlate(1, 5), 0)
                .within("20", new PlateBeats().addPlate(20, 5), 0)
                .beyond("21", new PlateBeats().addPlate(21, 5), BAD)
                .beyond("greatest int", new PlateBeats().addPlate(GREATEST, 5), BAD);
    }

    private static void addPlateQ() {
        new Boundary("- `q`: 0 to 20", 2)
                .beyond("least int", new PlateBeats().addPlate(5, LEAST), BAD)
                .beyond("-1", new PlateBeats().addPlate(5, -1), BAD)
                .within("0", new PlateBeats().addPlate(5, 0), 0)
                .within("20", new PlateBeats().addPlate(5, 20), 0)
                .beyond("21", new PlateBeats().addPlate(5, 21), BAD)
                .beyond("greatest int", new PlateBeats().addPlate(5, GREATEST), BAD);
    }

    private static void addPlateRanges() {
        PlateBeats x = Planners.of(1, 0, 20, 20, 1, 20, 20, 0);
        Boundary b = new Boundary("with p from 1 to 20 and q from 0 to 20", 2, 6, 7)
                .within("both smallest: p", x.cellP(0), 1)
                .within("both smallest: q", x.cellQ(0), 0)
                .within("both greatest: p", x.cellP(1), 20)
                .within("both greatest: q", x.cellQ(1), 20)
                .within("smallest p, greatest q: p", x.cellP(2), 1)
                .within("smallest p, greatest q: q", x.cellQ(2), 20)
                .within("greatest p, smallest q: p", x.cellP(3), 20)
                .within("greatest p, smallest q: q", x.cellQ(3), 0);
        b.beyond("both too small", new PlateBeats().addPlate(0, -1), BAD)
                .beyond("both 0", new PlateBeats().addPlate(0, 0), BAD)
                .beyond("both too great", new PlateBeats().addPlate(21, 21), BAD);
    }

    private static void addPlateNumbers() {
        PlateBeats x = new PlateBeats();
        Boundary b = new Boundary("numbered from 0 in the order in which they were added", 2);
        for (int k = 0; k < 4; k++) {
            b.within("number", x.addPlate(k + 1, k), k);
        }
        for (int k = 0; k < 4; k++) {
            b.within("p of " + k, x.cellP(k), k + 1);
        }
        b.beyond("a number before the first", x.cellP(-1), BAD);
        b.beyond("a number behind the last", x.cellP(4), BAD);
    }

    private static void addPlateRoom() {
        PlateBeats x = Planners.equal(3);
        Boundary b = new Boundary("CAPACITY_EXCEEDED if there are 4 plates", 2)
                .beyond("with 3 plates", x.addPlate(1, 1), 3)
                .within("with 4 plates", x.addPlate(1, 1), FULL)
                .within("with 4 plates, again", x.addPlate(1, 1), FULL)
                .within("still 4", x.plateCount(), 4);
        x.removePlate(1);
        b.beyond("with 3 plates after a removal", x.addPlate(2, 2), 3)
                .within("with 4 plates after it", x.addPlate(2, 2), FULL);
        x.undo();
        b.beyond("with 3 plates after an undo", x.addPlate(3, 3), 3)
                .within("with 4 plates after that", x.addPlate(3, 3), FULL);
    }

    private static void samePlates() {
        PlateBeats x = Planners.of(7, 2, 7, 2);
        new Boundary("two plates can have the same one", 2, 3)
                .within("added: plates", x.plateCount(), 2)
                .within("added: area", x.cellArea(1), 53)
                .beyond("another one", x.setScreen(1, 2, 7), 53)
                .beyond("the first one stays", x.cellP(0), 7)
                .within("the same again", x.setScreen(1, 7, 2), 53)
                .within("p", x.cellP(1), 7)
                .within("all 4", Planners.equal(4).plateCount(), 4);
    }

    /** Asks a call about the plates around the first and the last of none to four; dues are those of different(count). */
    private static void aroundPlates(Boundary b, ToLongBiFunction<PlateBeats, Integer> call, long... dues) {
        for (int count = 0; count <= 4; count++) {
            for (int plate = 0; plate < count; plate++) {
                b.within(plate + " of " + count, call.applyAsLong(Planners.different(count), plate), dues[plate]);
            }
            for (int plate : new int[] {LEAST, -1, count, count + 1, 31, 32, GREATEST}) {
                b.beyond(plate + " of " + count, call.applyAsLong(Planners.different(count), plate), BAD);
            }
        }
    }

    private static void setScreenPlate() {
        Boundary b = new Boundary("INVALID_ARGUMENT if there is no such plate or another argument is out of range", 3);
        aroundPlates(b, (x, plate) -> x.setScreen(plate, 3, 4), 122, 148, 178, 212);
    }

    private static void setScreenRanges() {
        Boundary b = new Boundary("`p`: 1 to 20 - `q`: 0 to 20", 3);
        for (int[] screen : new int[][] {{1, 5}, {20, 5}, {5, 0}, {5, 20}, {1, 0}, {20, 20}}) {
            PlateBeats x = Planners.of(4, 6);
            String what = screen[0] + ", " + screen[1];
            b.within(what, x.setScreen(0, screen[0], screen[1]), 52);
            b.within("p of " + what, x.cellP(0), screen[0]);
            b.within("q of " + what, x.cellQ(0), screen[1]);
        }
        for (int[] screen : new int[][] {{0, 5}, {21, 5}, {5, -1}, {5, 21}, {LEAST, 5}, {GREATEST, 5}, {5, LEAST},
            {5, GREATEST}}) {
            PlateBeats x = Planners.of(4, 6);
            String what = screen[0] + ", " + screen[1];
            b.beyond(what, x.setScreen(0, screen[0], screen[1]), BAD);
            b.beyond("p after " + what, x.cellP(0), 4);
            b.beyond("q after " + what, x.cellQ(0), 6);
        }
    }

    private static void setScreenArea() {
        PlateBeats x = Planners.of(1, 0, 20, 20);
        new Boundary("Returns the area of the cell that it had", 3)
                .within("the smallest one", x.setScreen(0, 20, 20), 1)
                .within("the greatest one", x.setScreen(0, 1, 0), 800)
                .within("not changed by the call", x.setScreen(1, 20, 20), 800)
                .beyond("the one that it has then", x.cellArea(0), 1);
    }

    private static void removePlatePlate() {
        Boundary b = new Boundary("Returns the number of plates that are left; INVALID_ARGUMENT if there is no such plate.", 4);
        for (int count = 0; count <= 4; count++) {
            for (int plate = 0; plate < count; plate++) {
                b.within(plate + " of " + count, Planners.different(count).removePlate(plate), count - 1);
            }
            for (int plate : new int[] {LEAST, -1, count, count + 1, 31, 32, GREATEST}) {
                b.beyond(plate + " of " + count, Planners.different(count).removePlate(plate), BAD);
            }
        }
    }

    private static void removePlateNumbers() {
        Boundary b = new Boundary("when one is removed, the numbers of those behind it become smaller by 1", 4);
        for (int removed = 0; removed < 4; removed++) {
            PlateBeats x = Planners.different(4);
            x.removePlate(removed);
            for (int plate = 0; plate < removed; plate++) {
                b.beyond(plate + " before " + removed, x.cellP(plate), 11 + plate);
            }
            for (int plate = removed; plate < 3; plate++) {
                b.within(plate + 1 + " behind " + removed + ": p", x.cellP(plate), 12 + plate);
                b.within(plate + 1 + " behind " + removed + ": q", x.cellQ(plate), 2 + plate);
            }
            b.within("no plate 3 without " + removed, x.cellP(3), BAD);
        }
    }

    private static void removePlateLeft() {
        PlateBeats x = Planners.different(4);
        Boundary b = new Boundary("Returns the number of plates that are left", 4);
        for (int left = 3; left >= 0; left--) {
            b.within("left", x.removePlate(0), left);
        }
        b.beyond("none to remove", x.removePlate(0), BAD);
    }

    private static void plateCount() {
        PlateBeats x = new PlateBeats();
        Boundary b = new Boundary("Returns the number of plates.", 5).within("none", x.plateCount(), 0);
        for (int count = 1; count <= 4; count++) {
            x.addPlate(count, count);
            b.within("after addPlate", x.plateCount(), count);
        }
        x.addPlate(5, 5);
        b.beyond("after a fifth one", x.plateCount(), 4);
        x.addPlate(0, 5);
        b.beyond("after a bad one", x.plateCount(), 4);
        x.removePlate(4);
        b.beyond("after removing one that is not there", x.plateCount(), 4);
    }

    private static void cells() {
        Boundary p = new Boundary("Returns p of its cell vector; INVALID_ARGUMENT if there is no such plate.", 6);
        aroundPlates(p, PlateBeats::cellP, 11, 12, 13, 14);
        Boundary q = new Boundary("Returns q of its cell vector; INVALID_ARGUMENT if there is no such plate.", 7);
        aroundPlates(q, PlateBeats::cellQ, 1, 2, 3, 4);
        Boundary area = new Boundary("Returns the area of its cell; INVALID_ARGUMENT if there is no such plate.", 8);
        aroundPlates(area, PlateBeats::cellArea, 122, 148, 178, 212);
        PlateBeats x = Planners.of(1, 0, 20, 20);
        area.within("the smallest area", x.cellArea(0), 1).within("the greatest area", x.cellArea(1), 800);
        Boundary tile = new Boundary("Returns its tile; INVALID_ARGUMENT if there is no such plate.", 9);
        aroundPlates(tile, PlateBeats::tile, 122, 74, 178, 106);
    }

    private static void tileOfZero() {
        Boundary b = new Boundary("(which is p if q is 0)", 9);
        for (int p : new int[] {1, 2, 7, 19, 20}) {
            b.within(p + ", 0", Planners.of(p, 0).tile(0), p);
            b.beyond(p + ", 1", Planners.of(p, 1).tile(0), p * p + 1);
        }
    }

    private static void tileDivides() {
        new Boundary("A divided by the greatest common divisor of p and q", 9)
                .within("6 and 3", Planners.of(6, 3).tile(0), 15)
                .within("3 and 6", Planners.of(3, 6).tile(0), 15)
                .within("1 and 1", Planners.of(1, 1).tile(0), 2)
                .within("20 and 20", Planners.of(20, 20).tile(0), 40)
                .within("12 and 18", Planners.of(12, 18).tile(0), 78)
                .beyond("without a common divisor", Planners.of(20, 19).tile(0), 761)
                .beyond("without a common divisor", Planners.of(1, 20).tile(0), 401);
    }

    private static void commonTileWithoutPlates() {
        PlateBeats x = new PlateBeats();
        Boundary b = new Boundary("1 without plates", 10).within("new", x.commonTile(), 1);
        x.addPlate(1, 0);
        b.beyond("with the smallest one", x.commonTile(), 1);
        x.setScreen(0, 20, 19);
        b.beyond("with another one", x.commonTile(), 761);
        x.removePlate(0);
        b.within("after the removal", x.commonTile(), 1);
    }

    private static void commonTileMultiple() {
        new Boundary("The common tile of all plates is the least common multiple of their tiles", 10)
                .within("the same tile twice", Planners.of(6, 3, 3, 6).commonTile(), 15)
                .within("one divides the other", Planners.of(5, 5, 20, 0).commonTile(), 20)
                .within("a common divisor", Planners.of(4, 6, 6, 4, 5, 5).commonTile(), 130)
                .beyond("no common divisor", Planners.of(4, 1, 7, 2).commonTile(), 17 * 53)
                .beyond("greater than an int", Planners.of(20, 19, 20, 17, 19, 18, 20, 13).commonTile(), 761L * 689 * 685 * 569);
    }

    private static void byAngleRank() {
        Boundary b = new Boundary("Returns the plate; INVALID_ARGUMENT if rank is negative", 11);
        for (int count = 0; count <= 4; count++) {
            b.within("least int of " + count, Planners.equal(count).byAngle(LEAST), BAD);
            b.within("-1 of " + count, Planners.equal(count).byAngle(-1), BAD);
            b.beyond("0 of " + count, Planners.equal(count).byAngle(0), count == 0 ? NONE : 0);
        }
    }

    private static void byAngleMany() {
        Boundary b = new Boundary("NONE if there are not so many", 11);
        for (int count = 0; count <= 4; count++) {
            for (int rank = 0; rank < count; rank++) {
                b.beyond(rank + " of " + count, Planners.equal(count).byAngle(rank), rank);
            }
            b.within(count + " of " + count, Planners.equal(count).byAngle(count), NONE);
            b.within(count + 1 + " of " + count, Planners.equal(count).byAngle(count + 1), NONE);
            b.within("greatest int of " + count, Planners.equal(count).byAngle(GREATEST), NONE);
        }
    }

    private static void byAngleEqual() {
        PlateBeats flat = Planners.of(20, 0, 1, 0);
        PlateBeats half = Planners.of(4, 2, 2, 1, 20, 10, 6, 3);
        Boundary b = new Boundary("of equal ones the one with the smaller number", 11)
                .within("both 0 / p", flat.byAngle(0), 0)
                .within("both 0 / p", flat.byAngle(1), 1);
        for (int rank = 0; rank < 4; rank++) {
            b.within("all 1 / 2", half.byAngle(rank), rank);
        }
        half.setScreen(3, 19, 9);
        b.beyond("9 / 19", half.byAngle(0), 3).within("the first behind it", half.byAngle(1), 0);
        half.setScreen(3, 19, 10);
        b.beyond("10 / 19", half.byAngle(3), 3).within("the first before it", half.byAngle(0), 0);
    }

    private static void byAngleSmaller() {
        new Boundary("the plate with the smaller q / p comes first", 11)
                .within("18 / 19 and 19 / 20", Planners.of(20, 19, 19, 18).byAngle(0), 1)
                .within("19 / 20 and 18 / 19", Planners.of(19, 18, 20, 19).byAngle(0), 0)
                .within("20 / 1 and 0 / 20", Planners.of(1, 20, 20, 0).byAngle(0), 1)
                .within("0 / 20 and 1 / 20", Planners.of(20, 1, 20, 0).byAngle(0), 1)
                .beyond("1 / 1 and 20 / 20", Planners.of(1, 1, 20, 20).byAngle(0), 0)
                .beyond("20 / 20 and 1 / 1", Planners.of(20, 20, 1, 1).byAngle(0), 0);
    }
}
