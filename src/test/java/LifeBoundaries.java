/** The boundary of an object's life: its 512th call is promised, what a later one answers is free. */
final class LifeBoundaries {
    private static final int CALLS = 512;
    private static final int LATER = 2000;

    private LifeBoundaries() {
    }

    static void run() {
        sameSearch();
        mixedCalls();
    }

    /** Four plates make 4 calls and the order 1; the rest are the dearest call. */
    private static void sameSearch() {
        PlateBeats x = Planners.of(5, 5, 7, 2, 2, 7, 6, 0);
        x.setOrder(2);
        Boundary b = new Boundary("An object is used for at most 512 calls after it has been made; "
                + "what later calls answer is free.", 30, 31);
        long wrong = 0;
        for (int call = 6; call < CALLS; call++) {
            wrong += x.bestScreen(3, 30, 60) == 404 ? 0 : 1;
        }
        b.within("calls 6 to 511 that are wrong", wrong, 0);
        b.within("call 512", x.bandsWithBest(3, 30, 60), 196);
        b.beyond("later calls that throw", throwing(x), 0);
    }

    /** What they answer is free, but no call may ever throw. */
    private static int throwing(PlateBeats x) {
        int thrown = 0;
        for (int call = CALLS + 1; call <= LATER; call++) {
            try {
                anyCall(x, call);
            } catch (RuntimeException e) {
                thrown++;
            }
        }
        return thrown;
    }

    private static long anyCall(PlateBeats x, int n) {
        switch (n % 14) {
            case 0: return x.addPlate(n % 20 + 1, n % 21);
            case 1: return x.setScreen(n % 4, n % 19 + 1, n % 17);
            case 2: return x.squareNumerator(0, 1, n % 2, 1, 1, n % 3 - 1);
            case 3: return x.bands(0, n % 4);
            case 4: return x.setOrder(n % 3);
            case 5: return x.setLimits(n % 15 + 1, n % 15 + n % 40);
            case 6: return n % 4 == 0 ? x.addPlate(n % 7 + 1, n % 5) : x.worstPeriod();
            case 7: return x.removePlate(n % 9);
            case 8: return x.beatPeriod(0, 1, n % 17);
            case 9: return x.save(n % 3);
            case 10: return x.addPlate(n % 13 + 1, n % 11);
            case 11: return n % 4 == 1 ? x.restore(n % 3) : x.undo();
            case 12: return x.tripleBands(0, 1, 2);
            default: return x.commonTile();
        }
    }

    private static long anyCall(Reference x, int n) {
        switch (n % 14) {
            case 0: return x.addPlate(n % 20 + 1, n % 21);
            case 1: return x.setScreen(n % 4, n % 19 + 1, n % 17);
            case 2: return x.squareNumerator(0, 1, n % 2, 1, 1, n % 3 - 1);
            case 3: return x.bands(0, n % 4);
            case 4: return x.setOrder(n % 3);
            case 5: return x.setLimits(n % 15 + 1, n % 15 + n % 40);
            case 6: return n % 4 == 0 ? x.addPlate(n % 7 + 1, n % 5) : x.worstPeriod();
            case 7: return x.removePlate(n % 9);
            case 8: return x.beatPeriod(0, 1, n % 17);
            case 9: return x.save(n % 3);
            case 10: return x.addPlate(n % 13 + 1, n % 11);
            case 11: return n % 4 == 1 ? x.restore(n % 3) : x.undo();
            case 12: return x.tripleBands(0, 1, 2);
            default: return x.commonTile();
        }
    }

    private static void mixedCalls() {
        PlateBeats x = new PlateBeats();
        Reference y = new Reference();
        Boundary b = new Boundary("and nothing about an object after its 512th call.", 1);
        for (int call = 1; call <= CALLS; call++) {
            b.within("call " + call, anyCall(x, call), anyCall(y, call));
        }
        b.beyond("later calls that throw", throwing(x), 0);
    }
}
