import com.sun.source.tree.AssignmentTree;
import com.sun.source.tree.BinaryTree;
import com.sun.source.tree.ClassTree;
import com.sun.source.tree.CompilationUnitTree;
import com.sun.source.tree.CompoundAssignmentTree;
import com.sun.source.tree.ExpressionTree;
import com.sun.source.tree.MethodInvocationTree;
import com.sun.source.tree.MethodTree;
import com.sun.source.tree.NewClassTree;
import com.sun.source.tree.Tree;
import com.sun.source.tree.TypeCastTree;
import com.sun.source.util.JavacTask;
import com.sun.source.util.TreePath;
import com.sun.source.util.TreePathScanner;
import com.sun.source.util.Trees;
import java.nio.file.Path;
import java.util.HashSet;
import java.util.List;
import java.util.Map;
import java.util.Set;
import java.util.TreeMap;
import java.util.TreeSet;
import javax.lang.model.element.Element;
import javax.lang.model.element.ExecutableElement;
import javax.tools.JavaCompiler;
import javax.tools.StandardJavaFileManager;
import javax.tools.ToolProvider;

/** What ../shared/LANGUAGE.md says of calls, casts and texts, looked at in the source as javac itself understands it. */
public final class CallsTest {
    private static final Check c = new Check();
    private static final String SOURCE = "src/main/java/WitnessPays.java";
    private static final int DEEPEST = 8;
    private static final Set<String> LIBRARY = new TreeSet<>(Set.of("Object.<init>", "System.arraycopy", "Arrays.copyOf",
        "Arrays.copyOfRange", "Arrays.fill"));

    static {
        for (String name : List.of("length", "charAt", "isEmpty", "equals", "indexOf", "substring", "toCharArray", "<init>")) {
            LIBRARY.add("String." + name);
        }
        for (String name : List.of("<init>", "append", "charAt", "setCharAt", "setLength", "deleteCharAt", "reverse", "length",
            "toString")) {
            LIBRARY.add("StringBuilder." + name);
        }
        for (String name : List.of("compare", "max", "min", "abs", "bitCount", "floorDiv", "floorMod")) {
            for (String owner : List.of("Integer.", "Long.", "Math.")) {
                LIBRARY.add(owner + name);
            }
        }
    }

    public static void main(String[] args) throws Exception {
        JavaCompiler compiler = ToolProvider.getSystemJavaCompiler();
        try (StandardJavaFileManager files = compiler.getStandardFileManager(null, null, null)) {
            JavacTask task = (JavacTask) compiler.getTask(null, files, null, List.of("-proc:none"), null,
                files.getJavaFileObjects(Path.of(SOURCE)));
            Reader reader = new Reader(Trees.instance(task));
            for (CompilationUnitTree unit : task.parse()) {
                task.analyze();
                reader.scan(unit, null);
            }
            libraryIsListed(reader.calls);
            callsAreNotDeep(reader.calls);
        }
        c.end("CallsTest");
    }

    private static void libraryIsListed(Map<String, Set<String>> calls) {
        c.holds("calls are found", calls.size() > 100);
        for (String caller : calls.keySet()) {
            for (String called : calls.get(caller)) {
                c.holds(caller + " calls " + called, calls.containsKey(called) || LIBRARY.contains(called));
            }
        }
    }

    /** The call that the user makes and those of the library are counted, too. */
    private static void callsAreNotDeep(Map<String, Set<String>> calls) {
        Map<String, Integer> known = new TreeMap<>();
        for (String caller : calls.keySet()) {
            int depth = depth(caller, calls, known);
            c.holds("eight deep at most: " + caller + " goes " + depth + " deep", depth <= DEEPEST);
        }
        c.holds("depth is found", known.get("Street.seers") > 2);
    }

    /** Methods that call one another in a ring are recursion, and count as one. */
    private static int depth(String method, Map<String, Set<String>> calls, Map<String, Integer> known) {
        if (known.containsKey(method)) {
            return known.get(method);
        }
        int deepest = 0;
        Set<String> ring = ringOf(method, calls);
        for (String member : ring) {
            for (String called : calls.getOrDefault(member, Set.of())) {
                if (!ring.contains(called)) {
                    deepest = Math.max(deepest, depth(called, calls, known));
                }
            }
        }
        known.put(method, deepest + 1);
        return deepest + 1;
    }

    private static Set<String> ringOf(String method, Map<String, Set<String>> calls) {
        Set<String> ring = new TreeSet<>(Set.of(method));
        for (String other : reached(method, calls)) {
            if (reached(other, calls).contains(method)) {
                ring.add(other);
            }
        }
        return ring;
    }

    private static Set<String> reached(String method, Map<String, Set<String>> calls) {
        Set<String> all = new HashSet<>();
        Set<String> border = Set.of(method);
        while (!border.isEmpty()) {
            Set<String> next = new HashSet<>();
            for (String one : border) {
                next.addAll(calls.getOrDefault(one, Set.of()));
            }
            next.removeAll(all);
            all.addAll(next);
            border = next;
        }
        return all;
    }

    /** Notes who calls whom (methods of one name in one class as one), and what else stands in the source. */
    private static final class Reader extends TreePathScanner<Void, Void> {
        private final Trees trees;
        private final Map<String, Set<String>> calls = new TreeMap<>();
        private String type = "";
        private String method = "<init>";

        Reader(Trees trees) {
            this.trees = trees;
        }

        @Override
        public Void visitClass(ClassTree node, Void none) {
            Tree.Kind around = getCurrentPath().getParentPath().getLeaf().getKind();
            c.holds("class " + node.getSimpleName() + " stands in no method", around == Tree.Kind.CLASS
                || around == Tree.Kind.COMPILATION_UNIT);
            String before = type;
            type = node.getSimpleName().toString();
            super.visitClass(node, none);
            type = before;
            return null;
        }

        @Override
        public Void visitMethod(MethodTree node, Void none) {
            method = node.getName().toString();
            calls.computeIfAbsent(type + "." + method, key -> new TreeSet<>());
            super.visitMethod(node, none);
            // What stands in fields runs as the constructor does.
            method = "<init>";
            return null;
        }

        @Override
        public Void visitMethodInvocation(MethodInvocationTree node, Void none) {
            note(trees.getElement(new TreePath(getCurrentPath(), node.getMethodSelect())));
            return super.visitMethodInvocation(node, none);
        }

        @Override
        public Void visitNewClass(NewClassTree node, Void none) {
            c.holds("no anonymous class in " + type + "." + method, node.getClassBody() == null);
            note(trees.getElement(getCurrentPath()));
            return super.visitNewClass(node, none);
        }

        private void note(Element called) {
            if (!(called instanceof ExecutableElement)) {
                c.holds("a call in " + type + "." + method + " is understood", false);
                return;
            }
            String name = called.getEnclosingElement().getSimpleName() + "." + called.getSimpleName();
            calls.computeIfAbsent(type + "." + method, key -> new TreeSet<>()).add(name);
        }

        @Override
        public Void visitTypeCast(TypeCastTree node, Void none) {
            boolean plain = trees.getTypeMirror(new TreePath(getCurrentPath(), node.getType())).getKind().isPrimitive();
            c.holds("cast to a number: " + node, plain);
            return super.visitTypeCast(node, none);
        }

        @Override
        public Void visitBinary(BinaryTree node, Void none) {
            c.holds("no text is joined or compared by a sign: " + node, !isText(node.getLeftOperand()) && !isText(node.getRightOperand()));
            return super.visitBinary(node, none);
        }

        @Override
        public Void visitCompoundAssignment(CompoundAssignmentTree node, Void none) {
            c.holds("no text is joined by a sign: " + node, !isText(node.getVariable()));
            return super.visitCompoundAssignment(node, none);
        }

        @Override
        public Void visitAssignment(AssignmentTree node, Void none) {
            c.holds("no constant's item is changed: " + node, !node.getVariable().toString().matches("[A-Z_]{2,}\\[.*"));
            return super.visitAssignment(node, none);
        }

        private boolean isText(ExpressionTree part) {
            String name = String.valueOf(trees.getTypeMirror(new TreePath(getCurrentPath(), part)));
            return name.equals("java.lang.String") || name.equals("java.lang.Integer");
        }
    }
}
