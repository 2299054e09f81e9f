import java.lang.reflect.Constructor;
import java.lang.reflect.Field;
import java.lang.reflect.Method;
import java.lang.reflect.Modifier;
import java.nio.file.Files;
import java.nio.file.Path;
import java.util.Set;
import java.util.TreeSet;
import java.util.regex.Pattern;

/** The public face, and those rules of LANGUAGE.md that can be seen from the words of the file. */
final class LanguageTest {
    private static final String[] FORBIDDEN = {
        "\\bimport\\b", "\\bpackage\\b", "\\bthrow\\b", "\\bthrows\\b", "\\btry\\b", "\\bcatch\\b", "\\bsynchronized\\b",
        "\\bassert\\b", "->", "::", "\\bstatic\\s*\\{", "\\bdouble\\b", "\\bfloat\\b", "\\bvar\\b", "Exact\\b", "\\bSystem\\b",
        "\"", "while \\(true\\)", "for \\(;;\\)"};
    private static final String FACE = "addPlate(int,int)int allBands()int bands(int,int)int bandsWithBest(int,int,int)int "
            + "beatCount(int,int)int beatDenominator(int,int,int)long beatFrequency(int,int,int)int "
            + "beatNumerator(int,int,int)long beatPeriod(int,int,int)int bestScreen(int,int,int)int byAngle(int)int "
            + "cellArea(int)int cellP(int)int cellQ(int)int commonTile()long historySize()int "
            + "kind(int,int,int,int,int,int)int locked(int,int)int longLimit()int plateCount()int removePlate(int)int "
            + "restore(int)int save(int)int setLimits(int,int)int setOrder(int)int setScreen(int,int,int)int "
            + "squareDenominator(int,int,int,int,int,int)long squareNumerator(int,int,int,int,int,int)long tile(int)int "
            + "tripleBands(int,int,int)int undo()int worstPair()int worstPeriod()int worstPlates()int";

    private LanguageTest() {
    }

    static void run() throws Exception {
        words();
        methods();
        fields();
        constants();
    }

    private static void words() throws Exception {
        String text = Files.readString(Path.of("src/main/java/PlateBeats.java"));
        String code = Pattern.compile("/\\*.*?\\*/|//[^\n]*", Pattern.DOTALL).matcher(text).replaceAll("");
        for (String forbidden : FORBIDDEN) {
            Check.holds("LANGUAGE.md: " + forbidden, !Pattern.compile(forbidden).matcher(code).find());
        }
    }

    private static void methods() {
        Set<String> open = new TreeSet<>();
        Set<String> openNames = new TreeSet<>();
        for (Method method : PlateBeats.class.getDeclaredMethods()) {
            if (!Modifier.isPrivate(method.getModifiers())) {
                open.add(signature(method));
                openNames.add(method.getName());
            }
        }
        Check.holds("rule 1: the methods are " + open, String.join(" ", open).equals(FACE));
        hiddenNames(PlateBeats.class, openNames);
        for (Class<?> inside : PlateBeats.class.getDeclaredClasses()) {
            Check.holds("rule 2: static " + inside, Modifier.isStatic(inside.getModifiers()));
            hiddenNames(inside, openNames);
        }
        Constructor<?>[] constructors = PlateBeats.class.getDeclaredConstructors();
        Check.due("rule 1: constructors", constructors.length, 1);
        Check.holds("rule 1: public", Modifier.isPublic(constructors[0].getModifiers()));
        Check.holds("rule 1: final", Modifier.isFinal(PlateBeats.class.getModifiers()));
    }

    private static void hiddenNames(Class<?> in, Set<String> openNames) {
        for (Method method : in.getDeclaredMethods()) {
            boolean hidden = Modifier.isPrivate(method.getModifiers()) || in != PlateBeats.class;
            Check.holds("rule 1: " + method, !hidden || !openNames.contains(method.getName()));
            Check.holds("rule 11: " + method, method.getParameterCount() <= 7);
        }
    }

    private static String signature(Method method) {
        StringBuilder text = new StringBuilder(method.getName()).append('(');
        for (Class<?> type : method.getParameterTypes()) {
            text.append(text.charAt(text.length() - 1) == '(' ? "" : ",").append(type.getName());
        }
        return text.append(')').append(method.getReturnType().getName()).toString();
    }

    private static void fields() {
        for (Field field : PlateBeats.class.getDeclaredFields()) {
            int modifiers = field.getModifiers();
            boolean constant = Modifier.isStatic(modifiers) && Modifier.isFinal(modifiers);
            boolean open = Set.of("INVALID_ARGUMENT", "ILLEGAL_STATE", "CAPACITY_EXCEEDED", "NONE").contains(field.getName());
            Check.holds("rule 1: " + field, open ? Modifier.isPublic(modifiers) : Modifier.isPrivate(modifiers));
            Check.holds("rule 5: " + field, constant || !Modifier.isStatic(modifiers));
        }
    }

    private static void constants() {
        Check.due("INVALID_ARGUMENT", PlateBeats.INVALID_ARGUMENT, -1);
        Check.due("ILLEGAL_STATE", PlateBeats.ILLEGAL_STATE, -2);
        Check.due("CAPACITY_EXCEEDED", PlateBeats.CAPACITY_EXCEEDED, -3);
        Check.due("NONE", PlateBeats.NONE, -4);
    }
}
