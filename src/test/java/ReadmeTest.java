import java.lang.reflect.Field;
import java.lang.reflect.Method;
import java.lang.reflect.Modifier;
import java.net.URL;
import java.net.URLClassLoader;
import java.nio.file.Files;
import java.nio.file.Path;
import java.util.ArrayList;
import java.util.List;
import java.util.regex.Matcher;
import java.util.regex.Pattern;
import java.util.stream.Stream;
import javax.tools.ToolProvider;

/** Compiles and runs the lines of Java that README.md shows, and compares the answers with those that it gives. */
final class ReadmeTest {
    private static final Path README = Path.of("README.md");
    private static final String MAKING = "PlateBeats planner = new PlateBeats();";
    /** A call, perhaps with a variable for its answer, then the answer and perhaps words about it. */
    private static final Pattern CALL = Pattern.compile("(?:int (\\w+) = )?(planner\\.(\\w+)\\(.*\\)); +// (-?\\d+)(?:: .*)?");
    private static final Pattern ROW = Pattern.compile("\\| `(\\w+)` +\\| (-\\d+) +\\| .*");

    private ReadmeTest() {
    }

    static void run() throws Exception {
        List<String> lines = exampleLines();
        Check.holds("README.md makes a planner first", !lines.isEmpty() && lines.get(0).equals(MAKING));
        List<Matcher> calls = new ArrayList<>();
        for (String line : lines.subList(Math.min(1, lines.size()), lines.size())) {
            Matcher call = CALL.matcher(line);
            Check.holds("README.md gives the answer of: " + line, call.matches());
            if (call.matches()) {
                calls.add(call);
            }
        }
        compareAnswers(lines, calls);
        everyCallIsShown(calls);
        codes(calls);
    }

    /** The lines between ```java and ```. */
    private static List<String> exampleLines() throws Exception {
        List<String> lines = new ArrayList<>();
        boolean java = false;
        for (String line : Files.readAllLines(README)) {
            if (line.startsWith("```")) {
                java = line.equals("```java");
            } else if (java && !line.isBlank()) {
                lines.add(line);
            }
        }
        return lines;
    }

    private static void compareAnswers(List<String> lines, List<Matcher> calls) throws Exception {
        Path folder = Files.createTempDirectory("readme");
        try {
            Path source = folder.resolve("ReadmeExample.java");
            Files.writeString(source, program(lines, calls));
            int compiled = ToolProvider.getSystemJavaCompiler().run(null, null, null,
                    "-cp", System.getProperty("java.class.path"), "-d", folder.toString(), source.toString());
            Check.due("README.md: the compiler's exit code", compiled, 0);
            long[] answers = compiled == 0 ? answers(folder) : new long[0];
            Check.due("README.md: answers", answers.length, calls.size());
            for (int k = 0; k < answers.length; k++) {
                Check.due("README.md, answer " + (k + 1) + ": " + calls.get(k).group(2), answers[k],
                        Long.parseLong(calls.get(k).group(4)));
            }
        } finally {
            delete(folder);
        }
    }

    /** The lines once as they stand, to see that they compile so, and once with every answer kept. */
    private static String program(List<String> lines, List<Matcher> calls) {
        StringBuilder text = new StringBuilder("public final class ReadmeExample {\n    static void shown() {\n");
        for (String line : lines) {
            text.append(line).append('\n');
        }
        text.append("    }\n    public static long[] answers() {\n").append(MAKING).append('\n');
        text.append("long[] answers = new long[").append(calls.size()).append("];\n");
        for (int k = 0; k < calls.size(); k++) {
            String variable = calls.get(k).group(1);
            String call = calls.get(k).group(2);
            if (variable != null) {
                text.append("int ").append(variable).append(" = ").append(call).append(";\n");
            }
            text.append("answers[").append(k).append("] = ").append(variable == null ? call : variable).append(";\n");
        }
        return text.append("return answers;\n    }\n}\n").toString();
    }

    private static long[] answers(Path folder) throws Exception {
        try (URLClassLoader loader = new URLClassLoader(new URL[] {folder.toUri().toURL()}, ReadmeTest.class.getClassLoader())) {
            return (long[]) loader.loadClass("ReadmeExample").getMethod("answers").invoke(null);
        }
    }

    private static void delete(Path folder) throws Exception {
        try (Stream<Path> files = Files.list(folder)) {
            for (Path file : files.toList()) {
                Files.delete(file);
            }
        }
        Files.delete(folder);
    }

    private static void everyCallIsShown(List<Matcher> calls) {
        for (Method method : PlateBeats.class.getDeclaredMethods()) {
            if (Modifier.isPublic(method.getModifiers())) {
                boolean shown = calls.stream().anyMatch(call -> call.group(3).equals(method.getName()));
                Check.holds("README.md shows " + method.getName(), shown);
            }
        }
    }

    /** The table tells every constant with its value, and the example answers every one. */
    private static void codes(List<Matcher> calls) throws Exception {
        List<String> rows = new ArrayList<>();
        for (String line : Files.readAllLines(README)) {
            Matcher row = ROW.matcher(line);
            if (row.matches()) {
                rows.add(row.group(1) + " " + row.group(2));
            }
        }
        for (Field constant : PlateBeats.class.getFields()) {
            String value = String.valueOf(constant.getInt(null));
            Check.holds("README.md tells " + constant.getName() + " " + value, rows.contains(constant.getName() + " " + value));
            Check.holds("README.md shows " + constant.getName(), calls.stream().anyMatch(c -> c.group(4).equals(value)));
        }
    }
}
