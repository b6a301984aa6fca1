import com.sun.source.tree.ClassTree;
import com.sun.source.tree.CompilationUnitTree;
import com.sun.source.tree.IdentifierTree;
import com.sun.source.tree.MemberSelectTree;
import com.sun.source.tree.MethodTree;
import com.sun.source.tree.NewClassTree;
import com.sun.source.tree.Tree;
import com.sun.source.util.JavacTask;
import com.sun.source.util.TreePathScanner;
import com.sun.source.util.Trees;
import java.nio.file.Path;
import java.util.ArrayDeque;
import java.util.Deque;
import java.util.List;
import java.util.Map;
import java.util.Set;
import java.util.TreeMap;
import java.util.TreeSet;
import javax.lang.model.element.Element;
import javax.lang.model.element.ElementKind;
import javax.lang.model.element.ExecutableElement;
import javax.lang.model.element.Modifier;
import javax.lang.model.element.TypeElement;
import javax.lang.model.element.VariableElement;
import javax.lang.model.type.TypeKind;
import javax.tools.JavaCompiler;
import javax.tools.StandardJavaFileManager;
import javax.tools.ToolProvider;

/** Checks rules 4, 8 and 11 of LANGUAGE.md on what javac itself knows of each call: the library, recursion and depth. */
public final class CallsTest {
    private static final String SOURCE = "src/main/java/SwapChoices.java";
    private static final int MOST_DEEP = 8;
    private static final Set<String> LIBRARY = Set.of("String.length", "String.charAt", "Integer.bitCount", "Math.max",
        "Math.min", "Arrays.fill", "System.arraycopy", "new IllegalArgumentException", "new NoSuchElementException",
        "new Object", "new Enum");

    private static final Map<String, ExecutableElement> METHODS = new TreeMap<>();
    private static final Map<String, Set<String>> CALLS = new TreeMap<>();
    private static final Set<String> OUTSIDE = new TreeSet<>();

    private static int wrong = 0;
    private static int checked = 0;

    public static void main(String[] args) throws Exception {
        JavaCompiler compiler = ToolProvider.getSystemJavaCompiler();
        try (StandardJavaFileManager files = compiler.getStandardFileManager(null, null, null)) {
            JavacTask task = (JavacTask) compiler.getTask(null, files, null, List.of("-proc:none"), null,
                files.getJavaFileObjects(Path.of(SOURCE)));
            Iterable<? extends CompilationUnitTree> units = task.parse();
            task.analyze();
            for (CompilationUnitTree unit : units) new Reader(Trees.instance(task)).scan(unit, null);
        }
        check(METHODS.size() > 100, "only " + METHODS.size() + " methods were read");
        library();
        recursion();
        depth();
        System.out.println(wrong == 0 ? checked + " checks of the calls are as due" : wrong + " are not");
        if (wrong != 0) System.exit(1);
    }

    private static void check(boolean good, String what) {
        checked++;
        if (!good) {
            wrong++;
            System.out.println("rule broken: " + what);
        }
    }

    private static void library() {
        for (String used : OUTSIDE) check(LIBRARY.contains(used), "4: " + used);
    }

    private static void recursion() {
        for (String name : METHODS.keySet()) {
            if (!reachedFrom(name).contains(name)) continue;
            ExecutableElement method = METHODS.get(name);
            Set<Modifier> marks = method.getModifiers();
            check(marks.contains(Modifier.PRIVATE), "8: " + name + " is in a recursion, and not private");
            boolean alone = !CALLS.get(name).contains(name) || marks.contains(Modifier.STATIC);
            check(alone, "8: " + name + " calls itself, and is not static");
            boolean counted = false;
            for (VariableElement v : method.getParameters()) counted |= v.asType().getKind() == TypeKind.INT;
            check(counted, "8: " + name + " carries no depth");
        }
    }

    private static Set<String> reachedFrom(String name) {
        Set<String> reached = new TreeSet<>();
        Deque<String> waiting = new ArrayDeque<>(CALLS.get(name));
        while (!waiting.isEmpty()) {
            String next = waiting.pop();
            if (reached.add(next)) waiting.addAll(CALLS.get(next));
        }
        return reached;
    }

    private static void depth() {
        for (String name : METHODS.keySet()) {
            List<String> chain = longest(name, new ArrayDeque<>());
            check(chain.size() <= MOST_DEEP, "11: " + chain.size() + " calls deep: " + chain);
        }
    }

    /** The longest chain of different methods. */
    private static List<String> longest(String name, Deque<String> open) {
        open.addLast(name);
        List<String> best = List.copyOf(open);
        for (String next : CALLS.get(name)) {
            if (open.contains(next)) continue;
            List<String> chain = longest(next, open);
            if (chain.size() > best.size()) best = chain;
        }
        open.removeLast();
        return best;
    }

    private static boolean isOwn(Element e) {
        Element top = e;
        while (top.getEnclosingElement() != null && top.getEnclosingElement().getKind() != ElementKind.PACKAGE) {
            top = top.getEnclosingElement();
        }
        return top.getSimpleName().contentEquals("SwapChoices");
    }

    private static String told(ExecutableElement method) {
        return method.getEnclosingElement().getSimpleName() + "." + method.getSimpleName() + method.getParameters();
    }

    /** Notes each method, the methods that it calls, and what comes from the library. */
    private static final class Reader extends TreePathScanner<Void, Void> {
        private final Trees trees;
        private String current = null;

        Reader(Trees trees) {
            this.trees = trees;
        }

        @Override
        public Void visitMethod(MethodTree tree, Void none) {
            ExecutableElement method = (ExecutableElement) trees.getElement(getCurrentPath());
            String before = current;
            current = told(method);
            METHODS.put(current, method);
            CALLS.putIfAbsent(current, new TreeSet<>());
            super.visitMethod(tree, none);
            current = before;
            return null;
        }

        @Override
        public Void visitClass(ClassTree tree, Void none) {
            String before = current;
            current = null;
            super.visitClass(tree, none);
            current = before;
            return null;
        }

        @Override
        public Void visitIdentifier(IdentifierTree tree, Void none) {
            note(tree);
            return super.visitIdentifier(tree, none);
        }

        @Override
        public Void visitMemberSelect(MemberSelectTree tree, Void none) {
            note(tree);
            return super.visitMemberSelect(tree, none);
        }

        @Override
        public Void visitNewClass(NewClassTree tree, Void none) {
            note(tree);
            return super.visitNewClass(tree, none);
        }

        private void note(Tree tree) {
            Element e = trees.getElement(getCurrentPath());
            if (e instanceof ExecutableElement) {
                noteCall((ExecutableElement) e);
            } else if (e != null && e.getKind() == ElementKind.FIELD && !isOwn(e) && !isLengthOfArray(e)) {
                OUTSIDE.add(e.getEnclosingElement().getSimpleName() + "." + e.getSimpleName());
            }
        }

        private boolean isLengthOfArray(Element e) {
            return !(e.getEnclosingElement() instanceof TypeElement) || e.getEnclosingElement().getSimpleName().contentEquals("Array");
        }

        private void noteCall(ExecutableElement method) {
            boolean makes = method.getKind() == ElementKind.CONSTRUCTOR;
            if (!isOwn(method)) {
                String type = method.getEnclosingElement().getSimpleName().toString();
                OUTSIDE.add(makes ? "new " + type : type + "." + method.getSimpleName());
            } else if (current != null) {
                CALLS.get(current).add(told(method));
                CALLS.putIfAbsent(told(method), new TreeSet<>());
            }
        }
    }
}
