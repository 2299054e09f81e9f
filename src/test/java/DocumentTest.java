import java.util.ArrayList;
import java.util.List;

/**
 * Every word of the document, from its first line to its last one, is quoted by a test: in the section of a promise by
 * one for this promise, elsewhere by one for any.
 */
final class DocumentTest {
    /** What says nothing about an answer or a change: what is left free, and a heading without its sign. */
    private static final String[] UNTESTED = {
        "How the state is held inside the object is free, as are the speed of each call, the text of toString and the behaviour "
            + "of equals and hashCode.",
        "Use of one object from several threads at once is not promised to be safe.",
        "History, slots"};

    private DocumentTest() {
    }

    /** To be run behind all tests that quote. */
    static void run() throws Exception {
        for (String words : UNTESTED) {
            Check.holds("words of the document: " + words, Document.words().contains(words));
        }
        int promises = 0;
        for (Document.Section section : Document.sections()) {
            promises += section.promise() == Document.OUTSIDE_PROMISES ? 0 : 1;
            List<String> gaps = gaps(section);
            Check.holds(section.heading() + ": no test quotes " + gaps, gaps.isEmpty());
        }
        Check.due("sections of promises", promises, Document.PROMISES);
    }

    private static List<String> gaps(Document.Section section) {
        String words = section.words();
        boolean[] quoted = new boolean[words.length()];
        for (Quotes.Quote quote : Quotes.all()) {
            if (section.promise() == Document.OUTSIDE_PROMISES || quote.isFor(section.promise())) {
                mark(words, quote.words(), quoted);
            }
        }
        for (String untested : UNTESTED) {
            mark(words, untested, quoted);
        }
        List<String> gaps = new ArrayList<>();
        int start = 0;
        for (int at = 0; at <= quoted.length; at++) {
            if (at == quoted.length || quoted[at]) {
                String gap = words.substring(start, at).trim();
                if (gap.matches(".*\\w.*")) {
                    gaps.add(gap);
                }
                start = at + 1;
            }
        }
        return gaps;
    }

    private static void mark(String words, String quote, boolean[] quoted) {
        for (int at = words.indexOf(quote); at >= 0; at = words.indexOf(quote, at + 1)) {
            for (int k = at; k < at + quote.length(); k++) {
                quoted[k] = true;
            }
        }
    }
}
