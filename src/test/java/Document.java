import java.io.IOException;
import java.nio.file.Files;
import java.nio.file.Path;
import java.util.ArrayList;
import java.util.List;
import java.util.regex.Matcher;
import java.util.regex.Pattern;

/** The document's text, cut at its headings, with one space for every gap between words. */
final class Document {
    static final int PROMISES = 35;
    static final int OUTSIDE_PROMISES = 0;
    private static final Path FILE = Path.of("../shared/DOC.md");
    private static final Pattern PROMISE = Pattern.compile("## Promise (\\d+): (.*)");

    /** The words below one heading, and the number of the promise that it names. */
    record Section(String heading, int promise, String words) {
    }

    private Document() {
    }

    static List<Section> sections() throws IOException {
        List<Section> sections = new ArrayList<>();
        for (String part : Files.readString(FILE).split("(?m)^(?=#)")) {
            String heading = part.lines().findFirst().orElse("");
            Matcher matcher = PROMISE.matcher(heading);
            int promise = matcher.matches() ? Integer.parseInt(matcher.group(1)) : OUTSIDE_PROMISES;
            sections.add(new Section(heading, promise, spaced(part.substring(heading.length()))));
        }
        return sections;
    }

    /** The lines below the heading that are Java. */
    static List<String> javaLines(String heading) throws IOException {
        String text = Files.readString(FILE);
        int start = text.indexOf("```java\n", text.indexOf(heading + "\n")) + "```java\n".length();
        return text.substring(start, text.indexOf("```", start)).lines().map(String::trim).toList();
    }

    static String words() throws IOException {
        return spaced(Files.readString(FILE));
    }

    private static String spaced(String text) {
        return text.replaceAll("\\s+", " ").trim();
    }
}
