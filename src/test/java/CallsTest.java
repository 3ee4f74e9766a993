import com.sun.source.tree.ClassTree;
import com.sun.source.tree.CompilationUnitTree;
import com.sun.source.tree.MethodInvocationTree;
import com.sun.source.tree.MethodTree;
import com.sun.source.tree.NewClassTree;
import com.sun.source.util.JavacTask;
import com.sun.source.util.TreePathScanner;
import com.sun.source.util.Trees;
import java.nio.file.Path;
import java.util.ArrayList;
import java.util.List;
import java.util.Map;
import java.util.Set;
import java.util.TreeMap;
import java.util.TreeSet;
import javax.lang.model.element.Element;
import javax.tools.JavaCompiler;
import javax.tools.StandardJavaFileManager;
import javax.tools.ToolProvider;

/** LANGUAGE.md on calls: which of the library's may be made, that none is recursive, and how deep they go. */
public final class CallsTest {
    private static final int MOST_DEEP = 8;
    private static final Set<String> LIBRARY = Set.of("java.lang.String.length()", "java.lang.String.charAt(int)",
            "java.lang.Math.max(int,int)", "java.lang.Math.min(int,int)", "java.lang.Math.abs(int)",
            "java.util.Arrays.fill(int[],int)", "java.util.Arrays.fill(int[],int,int,int)",
            "java.lang.System.arraycopy(java.lang.Object,int,java.lang.Object,int,int)", "Array.clone()");
    private static final Check CHECK = new Check("CallsTest");
    private final Map<String, Set<String>> calls = new TreeMap<>();
    private final Map<String, Integer> depths = new TreeMap<>();

    public static void main(String[] args) throws Exception {
        CallsTest test = new CallsTest();
        test.read();
        for (String method : test.calls.keySet()) {
            int deep = test.depth(method, new ArrayList<>());
            CHECK.due(method + " goes " + deep + " deep", true, deep <= MOST_DEEP);
        }
        CHECK.due("the calls were found", true, test.calls.containsKey("HumTape.look(int)"));
        CHECK.finish();
    }

    private void read() throws Exception {
        JavaCompiler compiler = ToolProvider.getSystemJavaCompiler();
        try (StandardJavaFileManager files = compiler.getStandardFileManager(null, null, null)) {
            JavacTask task = (JavacTask) compiler.getTask(null, files, null, List.of("-proc:none"), null,
                    files.getJavaFileObjects(Path.of("src/main/java/HumTape.java")));
            Iterable<? extends CompilationUnitTree> units = task.parse();
            task.analyze();
            for (CompilationUnitTree unit : units) {
                new Scanner(Trees.instance(task)).scan(unit, "");
            }
        }
    }

    /** How many calls stand open at once at the most, the library's own one among them. */
    private int depth(String method, List<String> open) {
        if (open.contains(method)) {
            CHECK.due("no recursion: " + open + " " + method, true, false);
            return 0;
        }
        if (!depths.containsKey(method)) {
            open.add(method);
            int deepest = 0;
            for (String called : calls.getOrDefault(method, Set.of())) {
                deepest = Math.max(deepest, depth(called, open));
            }
            open.remove(open.size() - 1);
            depths.put(method, deepest + 1);
        }
        return depths.get(method);
    }

    /** Goes through the source with the name of the method that it is in. */
    private final class Scanner extends TreePathScanner<Void, String> {
        private final Trees trees;

        Scanner(Trees trees) {
            this.trees = trees;
        }

        private String nameOf(Element element) {
            return element.getEnclosingElement() + "." + element;
        }

        private void note(String from, Element called) {
            String name = nameOf(called);
            boolean own = name.startsWith("HumTape");
            if (!own && !name.startsWith("java.lang.Object.Object")) {
                CHECK.due(from + " may call " + name, true, LIBRARY.contains(name));
            }
            calls.get(from).add(name);
        }

        @Override
        public Void visitClass(ClassTree node, String from) {
            CHECK.due(node.getSimpleName() + " is named", false, node.getSimpleName().isEmpty());
            return super.visitClass(node, from);
        }

        @Override
        public Void visitMethod(MethodTree node, String from) {
            String name = nameOf(trees.getElement(getCurrentPath()));
            calls.put(name, new TreeSet<>());
            return super.visitMethod(node, name);
        }

        @Override
        public Void visitMethodInvocation(MethodInvocationTree node, String from) {
            note(from, trees.getElement(getCurrentPath()));
            return super.visitMethodInvocation(node, from);
        }

        @Override
        public Void visitNewClass(NewClassTree node, String from) {
            note(from, trees.getElement(getCurrentPath()));
            return super.visitNewClass(node, from);
        }
    }
}
