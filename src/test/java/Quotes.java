import java.util.ArrayList;
import java.util.List;
import java.util.TreeSet;

/** The document's words that the tests quote, each with the promises that it is tested for. */
final class Quotes {
    private static final List<Quote> ALL = new ArrayList<>();

    record Quote(String words, int[] promises) {
        boolean isFor(int promise) {
            for (int own : promises) {
                if (own == promise) {
                    return true;
                }
            }
            return false;
        }

        String text() {
            StringBuilder text = new StringBuilder(promises.length == 1 ? "Promise" : "Promises");
            for (int promise : promises) {
                text.append(' ').append(promise);
            }
            return text.append(": \"").append(words).append('"').toString();
        }
    }

    private Quotes() {
    }

    static Quote add(String words, int... promises) {
        Quote quote = new Quote(words, promises);
        ALL.add(quote);
        return quote;
    }

    static List<Quote> all() {
        return ALL;
    }

    /** After all tests: every quote is in the document and names promises; no promise is left out. */
    static void checkAll() throws Exception {
        String document = Document.words();
        TreeSet<Integer> named = new TreeSet<>();
        for (Quote quote : ALL) {
            Check.holds(quote.text() + ": words of the document", document.contains(quote.words()));
            Check.holds(quote.text() + ": for a promise", quote.promises().length > 0);
            for (int promise : quote.promises()) {
                Check.holds(quote.text() + ": a promise", promise >= 1 && promise <= Document.PROMISES);
                named.add(promise);
            }
        }
        Check.due("promises with a quote", named.size(), Document.PROMISES);
    }
}
