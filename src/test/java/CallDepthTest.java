import com.sun.source.tree.CompilationUnitTree;
import com.sun.source.tree.MethodInvocationTree;
import com.sun.source.tree.MethodTree;
import com.sun.source.tree.NewClassTree;
import com.sun.source.tree.Tree;
import com.sun.source.util.JavacTask;
import com.sun.source.util.TreePath;
import com.sun.source.util.TreePathScanner;
import com.sun.source.util.Trees;
import java.io.IOException;
import java.lang.reflect.Method;
import java.lang.reflect.Modifier;
import java.nio.file.Path;
import java.util.ArrayList;
import java.util.LinkedHashMap;
import java.util.LinkedHashSet;
import java.util.List;
import java.util.Map;
import java.util.Set;
import javax.lang.model.element.Element;
import javax.tools.JavaCompiler;
import javax.tools.StandardJavaFileManager;
import javax.tools.ToolProvider;

/** Rule 11 of LANGUAGE.md, as the compiler reads the source: how deep calls go, parameters, fields. */
public final class CallDepthTest extends TreePathScanner<Void, Void> {
    private static final Path SOURCE = Path.of("src/main/java/CustodyRoom.java");
    private static final int DEEPEST = 8;
    private static final int MOST_PARAMETERS = 7;
    private static final int MOST_FIELDS = 20;
    private static final Expect expect = new Expect();

    private final Trees trees;
    private final Map<Element, Set<Element>> callsOf = new LinkedHashMap<>();
    private Set<Element> calls = new LinkedHashSet<>();

    private CallDepthTest(Trees trees) {
        this.trees = trees;
    }

    public static void main(String[] args) throws IOException {
        JavaCompiler compiler = ToolProvider.getSystemJavaCompiler();
        try (StandardJavaFileManager files = compiler.getStandardFileManager(null, null, null)) {
            JavacTask task = (JavacTask) compiler.getTask(null, files, null, List.of("-proc:none"), null,
                    files.getJavaFileObjects(SOURCE));
            CallDepthTest test = new CallDepthTest(Trees.instance(task));
            Iterable<? extends CompilationUnitTree> units = task.parse();
            task.analyze();
            for (CompilationUnitTree unit : units) {
                test.scan(unit, null);
            }
            test.depths();
        }
        List<Class<?>> classes = new ArrayList<>(List.of(CustodyRoom.class.getDeclaredClasses()));
        classes.add(CustodyRoom.class);
        classes.forEach(CallDepthTest::fewParametersAndFields);
        expect.end();
    }

    private static void fewParametersAndFields(Class<?> one) {
        for (Method method : one.getDeclaredMethods()) {
            expect.yes(one.getName() + "." + method.getName() + " has few parameters",
                    method.getParameterCount() <= MOST_PARAMETERS);
        }
        long fields = List.of(one.getDeclaredFields()).stream()
                .filter(field -> !Modifier.isStatic(field.getModifiers())).count();
        expect.yes(one.getName() + " has some twenty fields at most: " + fields, fields <= MOST_FIELDS);
    }

    @Override
    public Void visitMethod(MethodTree method, Void nothing) {
        calls = callsOf.computeIfAbsent(trees.getElement(getCurrentPath()), x -> new LinkedHashSet<>());
        return super.visitMethod(method, nothing);
    }

    @Override
    public Void visitMethodInvocation(MethodInvocationTree call, Void nothing) {
        called(call.getMethodSelect());
        return super.visitMethodInvocation(call, nothing);
    }

    @Override
    public Void visitNewClass(NewClassTree made, Void nothing) {
        calls.add(trees.getElement(getCurrentPath()));
        return super.visitNewClass(made, nothing);
    }

    private void called(Tree name) {
        calls.add(trees.getElement(new TreePath(getCurrentPath(), name)));
    }

    private void depths() {
        int deepest = 0;
        for (Element method : callsOf.keySet()) {
            List<Element> path = deepestPath(method, List.of());
            deepest = Math.max(deepest, path.size());
            expect.yes("at most " + DEEPEST + " deep: " + path, path.size() <= DEEPEST);
        }
        // A scanner that no longer finds calls would find no deep ones either.
        expect.yes("calls of calls are found", deepest > 4);
    }

    /** The longest row of calls from a method on, the library's among them. */
    private List<Element> deepestPath(Element method, List<Element> ahead) {
        List<Element> longest = new ArrayList<>();
        expect.no(method + " calls itself: " + ahead, ahead.contains(method));
        if (!ahead.contains(method)) {
            List<Element> here = new ArrayList<>(ahead);
            here.add(method);
            for (Element called : callsOf.getOrDefault(method, Set.of())) {
                List<Element> path = deepestPath(called, here);
                longest = path.size() > longest.size() ? path : longest;
            }
        }
        longest.add(0, method);
        return longest;
    }
}
