import java.util.ArrayList;
import java.util.List;
import java.util.TreeSet;

/**
 * The test of one sentence of the document that names no boundary. Its text is the promises' numbers and the sentence's
 * own words; it wants at least one answer that is due by it.
 */
final class Sentence {
    private static final List<Sentence> ALL = new ArrayList<>();
    private final Quotes.Quote quote;
    private int answers;

    Sentence(String sentence, int... promises) {
        quote = Quotes.add(sentence, promises);
        ALL.add(this);
    }

    Sentence due(String value, long got, long due) {
        answers++;
        Check.due(quote.text() + ": " + value, got, due);
        return this;
    }

    Sentence holds(String value, boolean condition) {
        return due(value, condition ? 1 : 0, 1);
    }

    /** After all tests: every one has an answer and is the only one. */
    static void checkAll() {
        TreeSet<String> texts = new TreeSet<>();
        for (Sentence s : ALL) {
            Check.holds(s.quote.text() + ": an answer", s.answers > 0);
            Check.holds(s.quote.text() + ": one test alone", texts.add(s.quote.text()));
        }
        System.out.println(ALL.size() + " other sentences");
    }
}
