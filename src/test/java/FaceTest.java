import java.lang.reflect.Constructor;
import java.lang.reflect.Field;
import java.lang.reflect.Method;
import java.lang.reflect.Modifier;
import java.util.ArrayList;
import java.util.Arrays;
import java.util.HashMap;
import java.util.List;
import java.util.Map;

/** The public face as the document shows it: its lines, the head of every promise's section, and the groups of calls. */
final class FaceTest {
    private static final String FACE = "## The public face";

    private FaceTest() {
    }

    static void run() throws Exception {
        List<String> lines = Document.javaLines(FACE);
        new Sentence("```java public final class PlateBeats {", 1)
                .due("modifiers", PlateBeats.class.getModifiers(), Modifier.PUBLIC | Modifier.FINAL)
                .holds("no class above it", PlateBeats.class.getSuperclass() == Object.class)
                .holds("no package", PlateBeats.class.getPackageName().isEmpty());
        Map<String, Integer> promises = promises();
        constants(lines);
        constructor(lines);
        methods(lines, promises);
        wholeNumbers();
        groups(lines, promises);
    }

    /** The number of every call's promise. */
    private static Map<String, Integer> promises() throws Exception {
        Map<String, Integer> promises = new HashMap<>();
        for (Document.Section section : Document.sections()) {
            if (section.promise() > 1) {
                promises.put(section.heading().substring(section.heading().indexOf(": ") + 2), section.promise());
            }
        }
        return promises;
    }

    private static void constants(List<String> lines) throws Exception {
        int constants = 0;
        for (String line : lines) {
            if (line.contains("=")) {
                String[] words = line.replace(";", "").split(" ");
                Field field = PlateBeats.class.getDeclaredField(words[4]);
                new Sentence(line, 1)
                        .due("modifiers", field.getModifiers(), Modifier.PUBLIC | Modifier.STATIC | Modifier.FINAL)
                        .holds("type", field.getType() == int.class)
                        .due("value", field.getInt(null), Integer.parseInt(words[6]));
                constants++;
            }
        }
        Check.due("public fields", PlateBeats.class.getFields().length, constants);
    }

    private static void constructor(List<String> lines) {
        Constructor<?>[] all = PlateBeats.class.getDeclaredConstructors();
        Sentence face = new Sentence("public PlateBeats();", 1);
        Sentence head = new Sentence("`PlateBeats()`:", 1);
        for (Sentence sentence : List.of(face, head)) {
            sentence.due("constructors", all.length, 1)
                    .due("parameters", all[0].getParameterCount(), 0)
                    .due("modifiers", all[0].getModifiers(), Modifier.PUBLIC)
                    .due("plates", new PlateBeats().plateCount(), 0);
        }
        Check.holds("the constructor's line", lines.contains("public PlateBeats();"));
    }

    private static List<String> methodLines(List<String> lines) {
        return lines.stream().filter(line -> line.matches("public (int|long) \\w+\\(.*\\);")).toList();
    }

    private static String nameIn(String line) {
        return line.substring(line.lastIndexOf(' ', line.indexOf('(')) + 1, line.indexOf('('));
    }

    /** Every line of the face is a method of the class, and so is the head of its promise's section. */
    private static void methods(List<String> lines, Map<String, Integer> promises) {
        List<String> due = methodLines(lines);
        Check.due("promises of calls", promises.size(), due.size());
        for (String line : due) {
            int promise = promises.getOrDefault(nameIn(line), Document.OUTSIDE_PROMISES);
            Method method = methodOf(nameIn(line));
            String face = line.substring("public ".length(), line.length() - 1);
            for (String words : List.of(line, "`" + face + "`:")) {
                new Sentence(words, promise)
                        .holds("the method", method != null && signature(method).equals(types(face)))
                        .holds("public, not static", method != null && method.getModifiers() == Modifier.PUBLIC);
            }
        }
        Method[] all = PlateBeats.class.getDeclaredMethods();
        long open = Arrays.stream(all).filter(method -> !Modifier.isPrivate(method.getModifiers())).count();
        Check.due("methods that are not private", open, due.size());
    }

    private static Method methodOf(String name) {
        for (Method method : PlateBeats.class.getDeclaredMethods()) {
            if (method.getName().equals(name)) {
                return method;
            }
        }
        return null;
    }

    /** A line of the face without the parameters' names. */
    private static String types(String face) {
        return face.replaceAll("(int|long) \\w+(?=[,)])", "$1");
    }

    private static String signature(Method method) {
        List<String> parameters = new ArrayList<>();
        for (Class<?> type : method.getParameterTypes()) {
            parameters.add(type.getName());
        }
        return method.getReturnType().getName() + " " + method.getName() + "(" + String.join(", ", parameters) + ")";
    }

    private static void wholeNumbers() {
        Sentence whole = new Sentence("All numbers are whole.", 22, 28);
        for (Method method : PlateBeats.class.getDeclaredMethods()) {
            if (Modifier.isPublic(method.getModifiers())) {
                String types = signature(method);
                whole.holds("types of " + types, types.matches("(int|long) \\w+\\(((int|long)(, )?)*\\)"));
            }
        }
        PlateBeats x = Planners.of(5, 5, 7, 2);
        whole.due("14 of 2650 / 13", x.beatPeriod(0, 1, 0), 14).due("14 of 2650 / 13", x.worstPeriod(), 14);
    }

    /** The groups of calls, one behind the other, are all calls in the order of the face. */
    private static void groups(List<String> lines, Map<String, Integer> promises) throws Exception {
        String text = Document.words();
        List<String> grouped = new ArrayList<>();
        int end = 0;
        for (int at = text.indexOf("Ahead of the calls"); at >= 0; at = text.indexOf("Ahead of the calls", end)) {
            end = text.indexOf('.', at) + 1;
            String words = text.substring(at, end);
            List<String> names = new ArrayList<>();
            for (String part : words.split("`")) {
                if (promises.containsKey(part)) {
                    names.add(part);
                }
            }
            Sentence group = new Sentence(words, names.stream().mapToInt(promises::get).toArray());
            for (String name : names) {
                group.holds(name, methodOf(name) != null);
            }
            grouped.addAll(names);
        }
        Check.holds("all calls in groups", grouped.equals(methodLines(lines).stream().map(FaceTest::nameIn).toList()));
    }
}
