import java.util.ArrayList;
import java.util.List;
import java.util.TreeSet;

/**
 * The test of one sentence of the document that names a boundary. Its text is the promises' numbers and the sentence's
 * own words; it wants at least one value within the boundary and one beyond it.
 */
final class Boundary {
    private static final List<Boundary> ALL = new ArrayList<>();
    private final Quotes.Quote quote;
    private int within;
    private int beyond;

    Boundary(String sentence, int... promises) {
        quote = Quotes.add(sentence, promises);
        ALL.add(this);
    }

    /** A value on the boundary's inner side: the case that the sentence names. */
    Boundary within(String value, long got, long due) {
        within++;
        Check.due(quote.text() + ": " + value, got, due);
        return this;
    }

    /** A value on the boundary's other side. */
    Boundary beyond(String value, long got, long due) {
        beyond++;
        Check.due(quote.text() + ": " + value, got, due);
        return this;
    }

    /** After all tests: every one has both sides and is the only one; no promise is left out. */
    static void checkAll() {
        TreeSet<String> texts = new TreeSet<>();
        TreeSet<Integer> named = new TreeSet<>();
        for (Boundary b : ALL) {
            Check.holds(b.quote.text() + ": a value within", b.within > 0);
            Check.holds(b.quote.text() + ": a value beyond", b.beyond > 0);
            Check.holds(b.quote.text() + ": one test alone", texts.add(b.quote.text()));
            for (int promise : b.quote.promises()) {
                named.add(promise);
            }
        }
        Check.due("promises with a boundary", named.size(), Document.PROMISES);
        System.out.println(ALL.size() + " boundaries");
    }
}
