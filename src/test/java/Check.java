/** Counts answers and prints those that are not the ones that are due. */
final class Check {
    private static final int MOST_PRINTED = 50;
    private static int right = 0;
    private static int wrong = 0;

    private Check() {
    }

    static void due(String what, long got, long want) {
        if (got == want) {
            right++;
            return;
        }
        wrong++;
        if (wrong <= MOST_PRINTED) {
            System.out.println(what + " answered " + got + ", due is " + want);
        }
    }

    static void holds(String what, boolean condition) {
        due(what, condition ? 1 : 0, 1);
    }

    static int right() {
        return right;
    }

    static int wrong() {
        return wrong;
    }
}
