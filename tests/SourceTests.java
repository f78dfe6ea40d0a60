import com.sun.source.tree.BlockTree;
import com.sun.source.tree.ClassTree;
import com.sun.source.tree.CompilationUnitTree;
import com.sun.source.tree.MethodInvocationTree;
import com.sun.source.tree.MethodTree;
import com.sun.source.tree.NewArrayTree;
import com.sun.source.tree.NewClassTree;
import com.sun.source.tree.Tree;
import com.sun.source.tree.VariableTree;
import com.sun.source.util.JavacTask;
import com.sun.source.util.TreePath;
import com.sun.source.util.TreePathScanner;
import com.sun.source.util.Trees;
import java.nio.file.Path;
import java.util.LinkedHashMap;
import java.util.List;
import java.util.Map;
import java.util.Set;
import java.util.TreeMap;
import java.util.TreeSet;
import javax.lang.model.element.Element;
import javax.lang.model.element.ElementKind;
import javax.lang.model.element.Modifier;
import javax.tools.JavaCompiler;
import javax.tools.StandardJavaFileManager;
import javax.tools.ToolProvider;

/** The rules of ../shared/LANGUAGE.md as the compiler's own trees of the source show them. */
public final class SourceTests {
    private static final Path SOURCE = Path.of("src/main/java/BurdenHouse.java");
    /** Rule 3. */
    private static final String TYPES = "(int|long|short|byte|char|boolean|double|float)(\\[\\]){0,2}|java\\.lang\\.(String|StringBuilder)(\\[\\])?"
        + "|BurdenHouse(\\.\\w+)?(\\[\\])?|java\\.util\\.(Array)?List<(java\\.lang\\.Integer|BurdenHouse\\.\\w+)>";
    /** Rule 4. */
    private static final String LIBRARY = "java\\.lang\\.String\\.(length|charAt|isEmpty|equals|indexOf|substring|toCharArray|<init>)"
        + "|java\\.lang\\.StringBuilder\\.(append|charAt|setCharAt|setLength|deleteCharAt|reverse|length|toString|<init>)"
        + "|java\\.util\\.(Array)?List(<.*>)?\\.(add|get|set|remove|size|isEmpty|clear|of|<init>)"
        + "|java\\.lang\\.(Math|Integer|Long)\\.(?!\\w*Exact)\\w+|java\\.lang\\.System\\.arraycopy|java\\.util\\.Arrays\\.(copyOf|copyOfRange|fill)"
        + "|java\\.lang\\.Object\\.<init>";
    /** Rules 2, 4 and 6. */
    private static final Set<Tree.Kind> NEVER = Set.of(Tree.Kind.THROW, Tree.Kind.TRY, Tree.Kind.CATCH, Tree.Kind.SYNCHRONIZED, Tree.Kind.ASSERT,
        Tree.Kind.LAMBDA_EXPRESSION, Tree.Kind.MEMBER_REFERENCE, Tree.Kind.ANNOTATION, Tree.Kind.IMPORT, Tree.Kind.PACKAGE);

    private static int wrong = 0;

    public static void main(String[] args) throws Exception {
        JavaCompiler compiler = ToolProvider.getSystemJavaCompiler();
        try (StandardJavaFileManager files = compiler.getStandardFileManager(null, null, null)) {
            JavacTask task = (JavacTask) compiler.getTask(null, files, null, List.of("-proc:none"), null, files.getJavaFileObjects(SOURCE));
            Iterable<? extends CompilationUnitTree> units = task.parse();
            task.analyze();
            Reader reader = new Reader(Trees.instance(task));
            for (CompilationUnitTree unit : units) {
                reader.scan(unit, null);
            }
            depths(reader);
            due("methods were seen", reader.calls.size() > 100, true);
            due("calls of the library were seen", reader.library > 20, true);
        }
        System.out.println(wrong == 0 ? "all is as due" : wrong + " faults");
        if (wrong != 0) {
            System.exit(1);
        }
    }

    private static void due(String what, Object got, Object due) {
        if (!due.equals(got)) {
            wrong++;
            System.out.println(what + ": " + got + ", due is " + due);
        }
    }

    /** Rules 8 and 11: no method comes back to itself, and the deepest row of calls has eight. */
    private static void depths(Reader reader) {
        Map<String, Integer> known = new TreeMap<>();
        for (String method : reader.calls.keySet()) {
            int depth = depth(method, reader.calls, known, new TreeSet<>());
            due("calls from " + method + " on go at most eight deep: " + depth, depth <= 8, true);
        }
    }

    private static int depth(String method, Map<String, Set<String>> calls, Map<String, Integer> known, Set<String> open) {
        if (known.containsKey(method)) {
            return known.get(method);
        }
        due(method + " comes back to itself", open.add(method), true);
        int deepest = 0;
        for (String called : calls.getOrDefault(method, Set.of())) {
            if (!open.contains(called)) {
                deepest = Math.max(deepest, depth(called, calls, known, open));
            } else {
                due(method + " and " + called + " call one another", true, false);
            }
        }
        open.remove(method);
        known.put(method, deepest + 1);
        return deepest + 1;
    }

    private static final class Reader extends TreePathScanner<Void, Void> {
        final Map<String, Set<String>> calls = new LinkedHashMap<>();
        int library = 0;
        private final Trees trees;
        private String method = "";
        private boolean making = false;

        Reader(Trees trees) {
            this.trees = trees;
        }

        @Override
        public Void scan(Tree tree, Void nothing) {
            if (tree != null) {
                due("a " + tree.getKind() + " in " + method, NEVER.contains(tree.getKind()), false);
            }
            return super.scan(tree, nothing);
        }

        @Override
        public Void visitClass(ClassTree tree, Void nothing) {
            due(tree.getSimpleName() + " stands in a file or a class", method, "");
            for (Tree member : tree.getMembers()) {
                due("a block in " + tree.getSimpleName(), member instanceof BlockTree, false);
            }
            return super.visitClass(tree, nothing);
        }

        @Override
        public Void visitMethod(MethodTree tree, Void nothing) {
            Element element = trees.getElement(getCurrentPath());
            method = named(element);
            making = element.getKind() == ElementKind.CONSTRUCTOR;
            calls.put(method, new TreeSet<>());
            due(method + " takes at most seven", tree.getParameters().size() <= 7, true);
            due(method + " throws", tree.getThrows().isEmpty(), true);
            super.visitMethod(tree, nothing);
            method = "";
            making = false;
            return null;
        }

        @Override
        public Void visitVariable(VariableTree tree, Void nothing) {
            Element element = trees.getElement(getCurrentPath());
            String type = element.asType().toString();
            due(method + " " + tree.getName() + " is of a type of rule 3: " + type, type.matches(TYPES), true);
            if (element.getModifiers().contains(Modifier.STATIC)) {
                due(tree.getName() + " is final", element.getModifiers().contains(Modifier.FINAL), true);
            }
            return super.visitVariable(tree, nothing);
        }

        @Override
        public Void visitMethodInvocation(MethodInvocationTree tree, Void nothing) {
            call(trees.getElement(new TreePath(getCurrentPath(), tree.getMethodSelect())));
            return super.visitMethodInvocation(tree, nothing);
        }

        /** What a call needs was made with the object (room): new stands in constructors alone. */
        @Override
        public Void visitNewClass(NewClassTree tree, Void nothing) {
            due("an object is made in " + method, making, true);
            due("a class without a name in " + method, tree.getClassBody() == null, true);
            call(trees.getElement(getCurrentPath()));
            return super.visitNewClass(tree, nothing);
        }

        @Override
        public Void visitNewArray(NewArrayTree tree, Void nothing) {
            due("an array is made in " + method, making || method.isEmpty(), true);
            return super.visitNewArray(tree, nothing);
        }

        private void call(Element called) {
            String name = called == null ? "?" : named(called);
            if (name.startsWith("BurdenHouse")) {
                calls.get(method).add(name);
            } else {
                library++;
                due(method + " calls what rule 4 lists: " + name, name.replaceAll("\\(.*", "").matches(LIBRARY), true);
            }
        }

        private static String named(Element method) {
            return method.getEnclosingElement() + "." + method.getSimpleName() + "(" + method.asType() + ")";
        }
    }
}
