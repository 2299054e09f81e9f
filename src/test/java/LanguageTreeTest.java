import com.sun.source.tree.ClassTree;
import com.sun.source.tree.CompilationUnitTree;
import com.sun.source.tree.MethodInvocationTree;
import com.sun.source.tree.MethodTree;
import com.sun.source.tree.NewArrayTree;
import com.sun.source.tree.NewClassTree;
import com.sun.source.tree.Tree;
import com.sun.source.tree.VariableTree;
import com.sun.source.util.JavacTask;
import com.sun.source.util.TreePath;
import com.sun.source.util.TreePathScanner;
import com.sun.source.util.Trees;
import java.io.File;
import java.util.HashMap;
import java.util.LinkedHashMap;
import java.util.Map;
import java.util.Set;
import java.util.TreeSet;
import javax.lang.model.element.Element;
import javax.lang.model.element.Modifier;
import javax.tools.JavaCompiler;
import javax.tools.StandardJavaFileManager;
import javax.tools.ToolProvider;

/**
 * Rules of LANGUAGE.md on the compiler's own tree: the types of rule 3 and the library of rule 4 (of both only what the
 * program uses), rule 8 for a program without recursion, the numbers of rule 11, and rule 12: no call makes anything.
 */
final class LanguageTreeTest {
    private static final int MOST_PARAMETERS = 7;
    private static final int MOST_LINES = 60;
    private static final int DEEPEST = 8;
    private static final int MOST_CLASSES = 12;
    private static final int MOST_FIELDS = 20;
    private static final Set<String> TYPES = Set.of("int", "long", "boolean", "int[]", "boolean[]", "PlateBeats.State",
            "PlateBeats.State[]", "PlateBeats.Group");
    private static final Set<String> LIBRARY = Set.of("java.lang.Math.abs(int)", "java.lang.Object.Object()");

    private LanguageTreeTest() {
    }

    static void run() throws Exception {
        JavaCompiler compiler = ToolProvider.getSystemJavaCompiler();
        try (StandardJavaFileManager files = compiler.getStandardFileManager(null, null, null)) {
            JavacTask task = (JavacTask) compiler.getTask(null, files, null, null, null,
                    files.getJavaFileObjects(new File("src/main/java/PlateBeats.java")));
            CompilationUnitTree unit = task.parse().iterator().next();
            task.analyze();
            Program program = new Program(Trees.instance(task), unit);
            program.scan(unit, null);
            check(program);
        }
    }

    private static void check(Program program) {
        Check.holds("rule 11: classes", program.classes > 0 && program.classes <= MOST_CLASSES);
        Check.holds("rule 11: fields of a class", program.fieldsOf.values().stream().allMatch(n -> n <= MOST_FIELDS));
        for (Map.Entry<String, Integer> method : program.linesOf.entrySet()) {
            Check.holds("rule 11: lines of " + method.getKey(), method.getValue() <= MOST_LINES);
        }
        for (String method : program.callsOf.keySet()) {
            int depth = program.depth(method, Set.of());
            Check.holds("rules 8 and 11: calls from " + method + " go " + depth + " deep", depth <= DEEPEST);
        }
        Check.holds("the deepest call is seen", program.depth("PlateBeats.bandsWithBest(int,int,int)", Set.of()) > 3);
    }

    /** What the tree tells: the calls of every method, its lines, the fields and the number of classes. */
    private static final class Program extends TreePathScanner<Void, String> {
        private final Trees trees;
        private final CompilationUnitTree unit;
        private final Map<String, Set<String>> callsOf = new LinkedHashMap<>();
        private final Map<String, Integer> linesOf = new LinkedHashMap<>();
        private final Map<String, Integer> fieldsOf = new HashMap<>();
        private int classes;

        private Program(Trees trees, CompilationUnitTree unit) {
            this.trees = trees;
            this.unit = unit;
        }

        private static String name(Element method) {
            return method.getEnclosingElement().getSimpleName() + "." + method;
        }

        @Override
        public Void visitClass(ClassTree tree, String within) {
            classes++;
            return super.visitClass(tree, null);
        }

        @Override
        public Void visitNewClass(NewClassTree tree, String within) {
            Check.holds("rule 12: made outside a constructor: " + tree, isMadeAtFirst());
            return super.visitNewClass(tree, within);
        }

        @Override
        public Void visitNewArray(NewArrayTree tree, String within) {
            Check.holds("rule 12: made outside a constructor: " + tree, isMadeAtFirst());
            return super.visitNewArray(tree, within);
        }

        /** In a field's first value or in a constructor. */
        private boolean isMadeAtFirst() {
            for (TreePath path = getCurrentPath(); path != null; path = path.getParentPath()) {
                if (path.getLeaf().getKind() == Tree.Kind.METHOD) {
                    return ((MethodTree) path.getLeaf()).getReturnType() == null;
                }
            }
            return true;
        }

        @Override
        public Void visitVariable(VariableTree tree, String within) {
            String type = trees.getTypeMirror(getCurrentPath()).toString();
            Check.holds("rule 3: " + type + " " + tree.getName(), TYPES.contains(type));
            if (within == null && !tree.getModifiers().getFlags().contains(Modifier.STATIC)) {
                String owner = trees.getElement(getCurrentPath()).getEnclosingElement().toString();
                fieldsOf.merge(owner, 1, Integer::sum);
            }
            return super.visitVariable(tree, within);
        }

        @Override
        public Void visitMethod(MethodTree tree, String within) {
            String method = name(trees.getElement(getCurrentPath()));
            callsOf.put(method, new TreeSet<>());
            long start = trees.getSourcePositions().getStartPosition(unit, tree);
            long end = trees.getSourcePositions().getEndPosition(unit, tree);
            if (end > start) {
                linesOf.put(method, (int) (unit.getLineMap().getLineNumber(end) - unit.getLineMap().getLineNumber(start) + 1));
            }
            Check.holds("rule 11: parameters of " + method, tree.getParameters().size() <= MOST_PARAMETERS);
            return super.visitMethod(tree, method);
        }

        @Override
        public Void visitMethodInvocation(MethodInvocationTree tree, String within) {
            Element called = trees.getElement(getCurrentPath());
            String owner = called.getEnclosingElement().toString();
            boolean own = owner.equals("PlateBeats") || owner.startsWith("PlateBeats.");
            Check.holds("rule 4: " + owner + "." + called, own || LIBRARY.contains(owner + "." + called));
            if (within != null) {
                callsOf.get(within).add(name(called));
            }
            return super.visitMethodInvocation(tree, within);
        }

        /** How many calls stand open at once, this one among them; too many if a method comes back to itself. */
        private int depth(String method, Set<String> open) {
            if (open.contains(method)) {
                return DEEPEST + 1;
            }
            Set<String> nowOpen = new TreeSet<>(open);
            nowOpen.add(method);
            int deepest = 0;
            for (String called : callsOf.getOrDefault(method, Set.of())) {
                deepest = Math.max(deepest, depth(called, nowOpen));
            }
            return deepest + 1;
        }
    }
}
