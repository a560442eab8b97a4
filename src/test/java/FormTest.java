import com.sun.source.tree.CompilationUnitTree;
import com.sun.source.tree.ExpressionTree;
import com.sun.source.tree.LiteralTree;
import com.sun.source.tree.MethodInvocationTree;
import com.sun.source.tree.MethodTree;
import com.sun.source.tree.NewClassTree;
import com.sun.source.tree.ThrowTree;
import com.sun.source.util.JavacTask;
import com.sun.source.util.TreePathScanner;
import com.sun.source.util.Trees;
import java.io.IOException;
import java.nio.file.Path;
import java.util.HashMap;
import java.util.List;
import java.util.Map;
import java.util.Set;
import java.util.TreeMap;
import java.util.TreeSet;
import javax.lang.model.element.Element;
import javax.lang.model.element.ElementKind;
import javax.lang.model.element.Modifier;
import javax.tools.JavaCompiler;
import javax.tools.StandardJavaFileManager;
import javax.tools.ToolProvider;

/** What ../shared/LANGUAGE.md asks of calls: how deep they go, what they call of the library, what they throw. */
public final class FormTest {
    private static final int DEEPEST = 8;
    private static final String CONSTRUCTOR = "<init>";

    private static final Set<String> LIBRARY = Set.of("String.length", "String.charAt", "ArrayList.add", "ArrayList.get",
            "ArrayList.size", "ArrayList.isEmpty", "ArrayList.<init>", "Arrays.fill", "Integer.bitCount", "Math.max", "Math.min");
    private static final Set<String> THROWN = Set.of("IllegalStateException", "IllegalArgumentException",
            "IndexOutOfBoundsException", "ArithmeticException", "UnsupportedOperationException", "NoSuchElementException");

    private final Map<Element, Set<Element>> calls = new HashMap<>();
    private final Map<Element, Integer> depths = new HashMap<>();
    private final Set<String> library = new TreeSet<>();
    private final TreeMap<String, Element> face = new TreeMap<>();

    public static void main(String[] args) throws IOException {
        FormTest test = new FormTest();
        test.read();
        Check.due("the number of methods of the face", test.face.size(), 44);
        for (Element method : test.face.values()) {
            Check.due(method + " goes at most eight deep", test.depth(method, 0) <= DEEPEST, true);
        }
        for (String name : test.library) {
            Check.due(name + " may be called", LIBRARY.contains(name), true);
        }
        Check.end();
    }

    private void read() throws IOException {
        JavaCompiler compiler = ToolProvider.getSystemJavaCompiler();
        try (StandardJavaFileManager files = compiler.getStandardFileManager(null, null, null)) {
            JavacTask task = (JavacTask) compiler.getTask(null, files, null, List.of("-proc:none"), null,
                    files.getJavaFileObjects(Path.of("src/main/java/Termgrid.java")));
            List<CompilationUnitTree> units = new java.util.ArrayList<>();
            task.parse().forEach(units::add);
            task.analyze();
            for (CompilationUnitTree unit : units) {
                new Reader(Trees.instance(task)).scan(unit, null);
            }
        }
    }

    private int depth(Element method, int above) {
        Check.due(method + " does not call itself", above < 100, true);
        if (above >= 100) {
            return above;
        }
        Integer known = depths.get(method);
        if (known != null) {
            return known;
        }
        int deepest = 0;
        for (Element callee : calls.getOrDefault(method, Set.of())) {
            deepest = Math.max(deepest, depth(callee, above + 1));
        }
        depths.put(method, 1 + deepest);
        return 1 + deepest;
    }

    private final class Reader extends TreePathScanner<Void, Void> {
        private final Trees trees;
        private Element method;

        Reader(Trees trees) {
            this.trees = trees;
        }

        @Override
        public Void visitMethod(MethodTree tree, Void nothing) {
            method = trees.getElement(getCurrentPath());
            boolean isNamed = !tree.getName().contentEquals(CONSTRUCTOR);
            if (isNamed && method.getModifiers().contains(Modifier.PUBLIC)) {
                face.put(tree.getName().toString(), method);
            }
            super.visitMethod(tree, nothing);
            method = null;
            return null;
        }

        @Override
        public Void visitMethodInvocation(MethodInvocationTree tree, Void nothing) {
            note(trees.getElement(getCurrentPath()));
            return super.visitMethodInvocation(tree, nothing);
        }

        @Override
        public Void visitNewClass(NewClassTree tree, Void nothing) {
            note(trees.getElement(getCurrentPath()));
            return super.visitNewClass(tree, nothing);
        }

        private void note(Element callee) {
            if (method != null) {
                calls.computeIfAbsent(method, key -> new java.util.LinkedHashSet<>()).add(callee);
            }
            Element owner = callee.getEnclosingElement();
            String name = owner.getSimpleName() + "." + callee.getSimpleName();
            boolean isOurs = owner.toString().startsWith("Termgrid") || owner.toString().equals("java.lang.Object");
            boolean isThrown = THROWN.contains(owner.getSimpleName().toString());
            if (!isOurs && !isThrown) {
                library.add(name);
            }
        }

        @Override
        public Void visitThrow(ThrowTree tree, Void nothing) {
            Check.due("no throw in a constructor", method.getKind() == ElementKind.CONSTRUCTOR, false);
            boolean isNew = tree.getExpression() instanceof NewClassTree;
            Check.due(tree + " throws a new exception", isNew, true);
            if (tree.getExpression() instanceof NewClassTree made) {
                Check.due(tree + " is of the list", THROWN.contains(made.getIdentifier().toString()), true);
                for (ExpressionTree argument : made.getArguments()) {
                    Check.due(tree + " has a written text", argument instanceof LiteralTree, true);
                }
            }
            return super.visitThrow(tree, nothing);
        }
    }
}
