import com.sun.source.tree.ClassTree;
import com.sun.source.tree.CompilationUnitTree;
import com.sun.source.tree.MethodInvocationTree;
import com.sun.source.tree.MethodTree;
import com.sun.source.tree.NewArrayTree;
import com.sun.source.tree.NewClassTree;
import com.sun.source.tree.Tree;
import com.sun.source.tree.VariableTree;
import com.sun.source.util.JavacTask;
import com.sun.source.util.TreePathScanner;
import com.sun.source.util.Trees;
import java.io.IOException;
import java.nio.file.Path;
import java.util.HashSet;
import java.util.LinkedHashMap;
import java.util.List;
import java.util.Map;
import java.util.Set;
import java.util.TreeSet;
import javax.lang.model.element.Element;
import javax.lang.model.element.Modifier;
import javax.tools.JavaCompiler;
import javax.tools.StandardJavaFileManager;
import javax.tools.ToolProvider;

/** Those rules of LANGUAGE.md that are seen when the compiler tells who calls whom: 3, 4, 8, 11 and 12. */
public final class RulesTest {
    private static final Path CLASS = Path.of("src/main/java/HostileHouses.java");
    private static final Set<String> LIBRARY = Set.of("java.lang.Math.max", "java.lang.System.arraycopy", "Array.clone");
    private static final Set<String> TYPES = Set.of("int", "long", "boolean", "char", "int[]", "char[]", "boolean[]",
        "HostileHouses.Report", "HostileHouses.Position", "HostileHouses.Position[]", "HostileHouses.State",
        "HostileHouses.State[]", "HostileHouses.History", "HostileHouses.Lookahead", "HostileHouses.Pad");
    private static final int MOST_LINES = 60;
    private static final int MOST_PARAMETERS = 7;
    private static final int MOST_CLASSES = 12;
    private static final int MOST_FIELDS = 20;
    private static final int DEEPEST_CALLS = 8;

    private static int wrong;

    private static void rule(int number, boolean holds, String what) {
        if (!holds) {
            wrong++;
            System.out.println("rule " + number + ": " + what);
        }
    }

    /** Walks over the class, and notes for each method the ones that it calls. */
    private static final class Walk extends TreePathScanner<Void, Void> {
        final Map<Element, Set<Element>> calls = new LinkedHashMap<>();
        private final Trees trees;
        private final CompilationUnitTree unit;
        private Element method;
        private int classes;

        Walk(Trees trees, CompilationUnitTree unit) {
            this.trees = trees;
            this.unit = unit;
        }

        @Override
        public Void visitClass(ClassTree tree, Void nothing) {
            classes++;
            rule(11, classes <= MOST_CLASSES, "more than " + MOST_CLASSES + " classes");
            long fields = tree.getMembers().stream().filter(RulesTest::isFieldOfAnObject).count();
            rule(11, fields <= MOST_FIELDS, fields + " fields in " + tree.getSimpleName());
            return super.visitClass(tree, nothing);
        }

        @Override
        public Void visitMethod(MethodTree tree, Void nothing) {
            method = element();
            calls.put(method, new HashSet<>());
            long lines = line(trees.getSourcePositions().getEndPosition(unit, tree))
                - line(trees.getSourcePositions().getStartPosition(unit, tree)) + 1;
            rule(11, lines <= MOST_LINES, method + " has " + lines + " lines");
            rule(11, tree.getParameters().size() <= MOST_PARAMETERS, "too many parameters: " + method);
            super.visitMethod(tree, nothing);
            method = null;
            return null;
        }

        @Override
        public Void visitVariable(VariableTree tree, Void nothing) {
            String type = trees.getTypeMirror(getCurrentPath()).toString();
            rule(3, TYPES.contains(type), tree.getName() + " is a " + type);
            return super.visitVariable(tree, nothing);
        }

        @Override
        public Void visitMethodInvocation(MethodInvocationTree tree, Void nothing) {
            Element called = element();
            String owner = called.getEnclosingElement().toString();
            if (owner.startsWith("HostileHouses")) {
                if (method != null) {
                    calls.get(method).add(called);
                }
            } else if (!called.getSimpleName().contentEquals("<init>")) {
                String name = owner + "." + called.getSimpleName();
                rule(4, LIBRARY.contains(name), name + " is called");
                rule(12, method == null || !name.endsWith(".clone"), method + " copies an array");
            }
            return super.visitMethodInvocation(tree, nothing);
        }

        @Override
        public Void visitNewClass(NewClassTree tree, Void nothing) {
            rule(12, isInConstructor(), method + " makes an object");
            return super.visitNewClass(tree, nothing);
        }

        @Override
        public Void visitNewArray(NewArrayTree tree, Void nothing) {
            rule(12, isInConstructor(), method + " makes an array");
            return super.visitNewArray(tree, nothing);
        }

        private boolean isInConstructor() {
            return method == null || method.getSimpleName().contentEquals("<init>");
        }

        private Element element() {
            return trees.getElement(getCurrentPath());
        }

        private long line(long position) {
            return unit.getLineMap().getLineNumber(position);
        }
    }

    private static boolean isFieldOfAnObject(Tree member) {
        return member instanceof VariableTree field && !field.getModifiers().getFlags().contains(Modifier.STATIC);
    }

    /** The most calls that stand open at once from a method on, when none of them is open twice. */
    private static int depth(Element method, Map<Element, Set<Element>> calls, Set<Element> open) {
        int deepest = 0;
        open.add(method);
        for (Element called : calls.getOrDefault(method, Set.of())) {
            if (!open.contains(called)) {
                deepest = Math.max(deepest, depth(called, calls, open));
            }
        }
        open.remove(method);
        return deepest + 1;
    }

    private static boolean reaches(Element from, Element to, Map<Element, Set<Element>> calls, Set<Element> seen) {
        for (Element called : calls.getOrDefault(from, Set.of())) {
            if (called.equals(to) || seen.add(called) && reaches(called, to, calls, seen)) {
                return true;
            }
        }
        return false;
    }

    private static void callsAmongMethods(Map<Element, Set<Element>> calls) {
        Set<String> recursive = new TreeSet<>();
        for (Element method : calls.keySet()) {
            int depth = depth(method, calls, new HashSet<>());
            rule(11, depth <= DEEPEST_CALLS, method + " opens " + depth + " calls");
            if (reaches(method, method, calls, new HashSet<>())) {
                recursive.add(method.getSimpleName().toString());
                rule(8, method.getModifiers().contains(Modifier.PRIVATE), method + " calls itself, and is not private");
            }
        }
        rule(8, recursive.equals(Set.of("valueOf", "valueBehind")), "looking ahead alone calls itself: " + recursive);
    }

    public static void main(String[] args) throws IOException {
        JavaCompiler compiler = ToolProvider.getSystemJavaCompiler();
        try (StandardJavaFileManager files = compiler.getStandardFileManager(null, null, null)) {
            JavacTask task = (JavacTask) compiler.getTask(null, files, null, List.of("-proc:none"), null,
                files.getJavaFileObjects(CLASS));
            CompilationUnitTree unit = task.parse().iterator().next();
            task.analyze();
            Walk walk = new Walk(Trees.instance(task), unit);
            walk.scan(unit, null);
            callsAmongMethods(walk.calls);
        }
        System.out.println(wrong == 0 ? "the rules are kept" : wrong + " things are against the rules");
        if (wrong != 0) {
            System.exit(1);
        }
    }
}
