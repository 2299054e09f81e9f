import java.nio.file.Files;
import java.nio.file.Path;
import java.util.ArrayList;
import java.util.List;
import java.util.TreeSet;

/**
 * The test of one sentence of the document that names a boundary. Its text is the promises' numbers and the sentence's
 * own words; it wants at least one value within the boundary and one beyond it.
 */
final class Boundary {
    private static final List<Boundary> ALL = new ArrayList<>();
    private static final int PROMISES = 35;
    private final String sentence;
    private final int[] promises;
    private int within;
    private int beyond;

    Boundary(String sentence, int... promises) {
        this.sentence = sentence;
        this.promises = promises;
        ALL.add(this);
    }

    /** A value on the boundary's inner side: the case that the sentence names. */
    Boundary within(String value, long got, long due) {
        within++;
        Check.due(text() + ": " + value, got, due);
        return this;
    }

    /** A value on the boundary's other side. */
    Boundary beyond(String value, long got, long due) {
        beyond++;
        Check.due(text() + ": " + value, got, due);
        return this;
    }

    private String text() {
        StringBuilder text = new StringBuilder(promises.length == 1 ? "Promise" : "Promises");
        for (int promise : promises) {
            text.append(' ').append(promise);
        }
        return text.append(": \"").append(sentence).append('"').toString();
    }

    /** After all tests: every one has both sides, quotes the document, and is the only one; no promise is left out. */
    static void checkAll() throws Exception {
        String document = Files.readString(Path.of("../shared/DOC.md")).replaceAll("\\s+", " ");
        TreeSet<String> texts = new TreeSet<>();
        TreeSet<Integer> named = new TreeSet<>();
        for (Boundary b : ALL) {
            Check.holds(b.text() + ": a value within", b.within > 0);
            Check.holds(b.text() + ": a value beyond", b.beyond > 0);
            Check.holds(b.text() + ": words of the document", document.contains(b.sentence));
            Check.holds(b.text() + ": one test alone", texts.add(b.text()));
            for (int promise : b.promises) {
                named.add(promise);
            }
        }
        Check.due("promises with a boundary", named.size(), PROMISES);
        System.out.println(ALL.size() + " boundaries");
    }
}
