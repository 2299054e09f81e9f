import java.math.BigInteger;
import java.util.ArrayDeque;
import java.util.ArrayList;
import java.util.Deque;
import java.util.List;
import java.util.TreeMap;

/**
 * The document's words, put down as plainly as they stand: every combination is walked through, every square is an
 * exact fraction made from the frequencies' two parts. Slow, and written without looking at how PlateBeats does it.
 */
final class Reference {
    static final int INVALID = -1;
    static final int STATE = -2;
    static final int CAPACITY = -3;
    static final int NONE = -4;

    /** A fraction in lowest terms with a positive denominator. */
    record Fraction(BigInteger num, BigInteger den) implements Comparable<Fraction> {
        static Fraction of(BigInteger num, BigInteger den) {
            BigInteger g = num.gcd(den).multiply(BigInteger.valueOf(den.signum()));
            return new Fraction(num.divide(g), den.divide(g));
        }

        static Fraction of(long num, long den) {
            return of(BigInteger.valueOf(num), BigInteger.valueOf(den));
        }

        Fraction plus(Fraction o) {
            return of(num.multiply(o.den).add(o.num.multiply(den)), den.multiply(o.den));
        }

        Fraction times(long factor) {
            return of(num.multiply(BigInteger.valueOf(factor)), den);
        }

        Fraction squared() {
            return of(num.multiply(num), den.multiply(den));
        }

        @Override
        public int compareTo(Fraction o) {
            return num.multiply(o.den).compareTo(o.num.multiply(den));
        }
    }

    record Vector(Fraction x, Fraction y) {
        Vector plus(Vector o) {
            return new Vector(x.plus(o.x), y.plus(o.y));
        }

        Vector times(int factor) {
            return new Vector(x.times(factor), y.times(factor));
        }

        Fraction square() {
            return x.squared().plus(y.squared());
        }
    }

    record Screen(int p, int q) {
        int area() {
            return p * p + q * q;
        }

        Vector u() {
            return new Vector(Fraction.of(p, area()), Fraction.of(q, area()));
        }

        Vector v() {
            return new Vector(Fraction.of(-q, area()), Fraction.of(p, area()));
        }
    }

    record State(List<Screen> plates, int order, int fine, int longLimit) {
    }

    private static final Fraction ONE = Fraction.of(1, 1);
    private State now = new State(List.of(), 1, 10, 500);
    private final Deque<State> history = new ArrayDeque<>();
    private final State[] slots = new State[2];

    private void act(State next) {
        history.addLast(now);
        if (history.size() > 5) {
            history.removeFirst();
        }
        now = next;
    }

    private boolean no(int plate) {
        return plate < 0 || plate >= now.plates().size();
    }

    private static boolean badScreen(int p, int q) {
        return p < 1 || p > 20 || q < 0 || q > 20;
    }

    private State withPlates(List<Screen> plates) {
        return new State(List.copyOf(plates), now.order(), now.fine(), now.longLimit());
    }

    int addPlate(int p, int q) {
        if (badScreen(p, q)) return INVALID;
        if (now.plates().size() == 4) return CAPACITY;
        List<Screen> plates = new ArrayList<>(now.plates());
        plates.add(new Screen(p, q));
        act(withPlates(plates));
        return plates.size() - 1;
    }

    int setScreen(int plate, int p, int q) {
        if (no(plate) || badScreen(p, q)) return INVALID;
        int before = now.plates().get(plate).area();
        act(withPlates(replaced(plate, new Screen(p, q))));
        return before;
    }

    private List<Screen> replaced(int plate, Screen screen) {
        List<Screen> plates = new ArrayList<>(now.plates());
        plates.set(plate, screen);
        return plates;
    }

    int removePlate(int plate) {
        if (no(plate)) return INVALID;
        List<Screen> plates = new ArrayList<>(now.plates());
        plates.remove(plate);
        act(withPlates(plates));
        return plates.size();
    }

    int plateCount() {
        return now.plates().size();
    }

    int cellP(int plate) {
        return no(plate) ? INVALID : now.plates().get(plate).p();
    }

    int cellQ(int plate) {
        return no(plate) ? INVALID : now.plates().get(plate).q();
    }

    int cellArea(int plate) {
        return no(plate) ? INVALID : now.plates().get(plate).area();
    }

    /** Looked for: the smallest side t for which (t, 0) is a sum of multiples of (p, q) and (-q, p). */
    int tile(int plate) {
        if (no(plate)) return INVALID;
        Screen s = now.plates().get(plate);
        int t = 1;
        while (t * s.p() % s.area() != 0 || t * s.q() % s.area() != 0) t++;
        return t;
    }

    long commonTile() {
        BigInteger common = BigInteger.ONE;
        for (int k = 0; k < plateCount(); k++) {
            BigInteger t = BigInteger.valueOf(tile(k));
            common = common.multiply(t).divide(common.gcd(t));
        }
        return common.longValueExact();
    }

    int byAngle(int rank) {
        if (rank < 0) return INVALID;
        List<Integer> order = new ArrayList<>();
        for (int k = 0; k < plateCount(); k++) order.add(k);
        order.sort((k, m) -> slope(k).compareTo(slope(m)));
        return rank < order.size() ? order.get(rank) : NONE;
    }

    private Fraction slope(int plate) {
        Screen s = now.plates().get(plate);
        return Fraction.of(s.q(), s.p());
    }

    int setOrder(int order) {
        if (order < 1 || order > 2) return INVALID;
        int before = now.order();
        act(new State(now.plates(), order, now.fine(), now.longLimit()));
        return before;
    }

    int setLimits(int fine, int longLimit) {
        if (fine < 1 || fine > 1000 || longLimit < fine + 1 || longLimit > 10000) return INVALID;
        int before = now.fine();
        act(new State(now.plates(), now.order(), fine, longLimit));
        return before;
    }

    int longLimit() {
        return now.longLimit();
    }

    private static Fraction square(Screen i, Screen j, int a, int b, int c, int d) {
        return i.u().times(a).plus(i.v().times(b)).plus(j.u().times(-c)).plus(j.v().times(-d)).square();
    }

    private boolean badPair(int i, int j) {
        return no(i) || no(j) || i >= j;
    }

    private boolean bad(int i, int j, int... abcd) {
        if (badPair(i, j)) return true;
        for (int n : abcd) {
            if (n < -now.order() || n > now.order()) return true;
        }
        return abcd[0] == 0 && abcd[1] == 0 || abcd[2] == 0 && abcd[3] == 0;
    }

    private Fraction squareOf(int i, int j, int a, int b, int c, int d) {
        return square(now.plates().get(i), now.plates().get(j), a, b, c, d);
    }

    long squareNumerator(int i, int j, int a, int b, int c, int d) {
        return bad(i, j, a, b, c, d) ? INVALID : squareOf(i, j, a, b, c, d).num().longValueExact();
    }

    long squareDenominator(int i, int j, int a, int b, int c, int d) {
        return bad(i, j, a, b, c, d) ? INVALID : squareOf(i, j, a, b, c, d).den().longValueExact();
    }

    int kind(int i, int j, int a, int b, int c, int d) {
        return bad(i, j, a, b, c, d) ? INVALID : kindOf(squareOf(i, j, a, b, c, d));
    }

    private int kindOf(Fraction square) {
        if (square.num().signum() == 0) return 0;
        if (square.times((long) now.fine() * now.fine()).compareTo(ONE) >= 0) return 1;
        if (square.times((long) now.longLimit() * now.longLimit()).compareTo(ONE) <= 0) return 2;
        return 3;
    }

    private static int periodOf(Fraction square) {
        return square.den().divide(square.num()).sqrt().intValueExact();
    }

    private static void count(TreeMap<Fraction, Integer> squares, Fraction square) {
        squares.merge(square, 1, Integer::sum);
    }

    private TreeMap<Fraction, Integer> pairSquares(Screen i, Screen j) {
        TreeMap<Fraction, Integer> squares = new TreeMap<>();
        int n = now.order();
        for (int a = -n; a <= n; a++)
            for (int b = -n; b <= n; b++)
                for (int c = -n; c <= n; c++)
                    for (int d = -n; d <= n; d++)
                        if ((a != 0 || b != 0) && (c != 0 || d != 0)) count(squares, square(i, j, a, b, c, d));
        return squares;
    }

    private static TreeMap<Fraction, Integer> tripleSquares(Screen i, Screen j, Screen k) {
        TreeMap<Fraction, Integer> squares = new TreeMap<>();
        for (Vector x : four(i)) for (Vector y : four(j)) for (Vector z : four(k)) count(squares, x.plus(y).plus(z).square());
        return squares;
    }

    private static List<Vector> four(Screen s) {
        return List.of(s.u(), s.v(), s.u().times(-1), s.v().times(-1));
    }

    private int countKind(TreeMap<Fraction, Integer> squares, int kind) {
        int sum = 0;
        for (Fraction square : squares.keySet()) {
            if (kindOf(square) == kind) sum += squares.get(square);
        }
        return sum;
    }

    private TreeMap<Fraction, Integer> pairSquares(int i, int j) {
        return pairSquares(now.plates().get(i), now.plates().get(j));
    }

    int beatCount(int i, int j) {
        return badPair(i, j) ? INVALID : pairSquares(i, j).size();
    }

    private long ofRank(int i, int j, int rank, String what) {
        if (badPair(i, j) || rank < 0) return INVALID;
        TreeMap<Fraction, Integer> squares = pairSquares(i, j);
        if (rank >= squares.size()) return NONE;
        Fraction square = new ArrayList<>(squares.keySet()).get(rank);
        return switch (what) {
            case "num" -> square.num().longValueExact();
            case "den" -> square.den().longValueExact();
            case "frequency" -> squares.get(square);
            default -> square.num().signum() == 0 ? NONE : periodOf(square);
        };
    }

    long beatNumerator(int i, int j, int rank) {
        return ofRank(i, j, rank, "num");
    }

    long beatDenominator(int i, int j, int rank) {
        return ofRank(i, j, rank, "den");
    }

    int beatFrequency(int i, int j, int rank) {
        return (int) ofRank(i, j, rank, "frequency");
    }

    int beatPeriod(int i, int j, int rank) {
        return (int) ofRank(i, j, rank, "period");
    }

    int locked(int i, int j) {
        return badPair(i, j) ? INVALID : countKind(pairSquares(i, j), 0);
    }

    int bands(int i, int j) {
        return badPair(i, j) ? INVALID : countKind(pairSquares(i, j), 3);
    }

    int tripleBands(int i, int j, int k) {
        if (badPair(i, j) || badPair(j, k)) return INVALID;
        return countKind(tripleSquares(now.plates().get(i), now.plates().get(j), now.plates().get(k)), 3);
    }

    int allBands() {
        return allBandsOf(now.plates());
    }

    private int allBandsOf(List<Screen> plates) {
        int sum = 0;
        for (int i = 0; i < plates.size(); i++) {
            for (int j = i + 1; j < plates.size(); j++) {
                sum += countKind(pairSquares(plates.get(i), plates.get(j)), 3);
                for (int k = j + 1; k < plates.size(); k++) {
                    sum += countKind(tripleSquares(plates.get(i), plates.get(j), plates.get(k)), 3);
                }
            }
        }
        return sum;
    }

    private int[] worst() {
        int[] worst = {NONE, NONE};
        int n = plateCount();
        for (int i = 0; i < n; i++)
            for (int j = i + 1; j < n; j++) worse(worst, 1 << i | 1 << j, pairSquares(i, j));
        for (int i = 0; i < n; i++)
            for (int j = i + 1; j < n; j++)
                for (int k = j + 1; k < n; k++) {
                    worse(worst, 1 << i | 1 << j | 1 << k,
                            tripleSquares(now.plates().get(i), now.plates().get(j), now.plates().get(k)));
                }
        return worst;
    }

    private void worse(int[] worst, int plates, TreeMap<Fraction, Integer> squares) {
        for (Fraction square : squares.keySet()) {
            if (kindOf(square) == 3 && periodOf(square) > worst[1]) {
                worst[0] = plates;
                worst[1] = periodOf(square);
            }
        }
    }

    int worstPlates() {
        return worst()[0];
    }

    int worstPeriod() {
        return worst()[1];
    }

    int worstPair() {
        int worst = NONE;
        int most = -1;
        for (int i = 0; i < plateCount(); i++)
            for (int j = i + 1; j < plateCount(); j++)
                if (bands(i, j) > most) {
                    most = bands(i, j);
                    worst = 10 * i + j;
                }
        return worst;
    }

    /** The best screen and the number of bands with it. */
    int[] best(int plate, int low, int high) {
        if (no(plate) || low < 1 || low > 800 || high < low || high > 800) return new int[] {INVALID, INVALID};
        int own = now.plates().get(plate).area();
        int[] least = null;
        for (int p = 20; p >= 1; p--)
            for (int q = 20; q >= 0; q--) {
                Screen screen = new Screen(p, q);
                if (screen.area() < low || screen.area() > high) continue;
                int bands = allBandsOf(replaced(plate, screen));
                int[] key = {bands, Math.abs(screen.area() - own), p, q};
                if (least == null || java.util.Arrays.compare(key, least) < 0) least = key;
            }
        return least == null ? new int[] {NONE, NONE} : new int[] {100 * least[2] + least[3], least[0]};
    }

    int bestScreen(int plate, int low, int high) {
        return best(plate, low, high)[0];
    }

    int bandsWithBest(int plate, int low, int high) {
        return best(plate, low, high)[1];
    }

    int save(int slot) {
        if (slot < 0 || slot > 1) return INVALID;
        slots[slot] = now;
        return plateCount();
    }

    int restore(int slot) {
        if (slot < 0 || slot > 1) return INVALID;
        if (slots[slot] == null) return STATE;
        act(slots[slot]);
        return plateCount();
    }

    int historySize() {
        return history.size();
    }

    int undo() {
        if (history.isEmpty()) return STATE;
        now = history.removeLast();
        return history.size();
    }
}
