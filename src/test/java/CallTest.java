import com.sun.source.tree.ClassTree;
import com.sun.source.tree.CompilationUnitTree;
import com.sun.source.tree.MethodInvocationTree;
import com.sun.source.tree.MethodTree;
import com.sun.source.tree.NewClassTree;
import com.sun.source.util.JavacTask;
import com.sun.source.util.TreePathScanner;
import com.sun.source.util.Trees;
import java.nio.file.Path;
import java.util.ArrayDeque;
import java.util.ArrayList;
import java.util.Deque;
import java.util.List;
import java.util.Map;
import java.util.Set;
import java.util.TreeMap;
import java.util.TreeSet;
import javax.lang.model.element.Element;
import javax.lang.model.element.ElementKind;
import javax.lang.model.element.Modifier;
import javax.tools.JavaCompiler;
import javax.tools.StandardJavaFileManager;
import javax.tools.ToolProvider;

/** LANGUAGE.md, rules 4, 8 and 11, by the calls that the class makes: which of the library, which of itself, how deep. */
public final class CallTest {
    private static final Check check = new Check("CallTest");
    private static final int DEEPEST = 8;
    private static final Set<String> LIBRARY = Set.of("java.lang.Math", "java.lang.Integer", "java.lang.Long");
    private static final Set<String> LIBRARY_CALLS = Set.of("java.lang.System.arraycopy", "java.util.Arrays.fill",
        "java.util.Arrays.copyOf", "java.util.Arrays.copyOfRange");
    private static final Map<String, Set<String>> calls = new TreeMap<>();
    private static final Map<String, Element> bodies = new TreeMap<>();

    public static void main(String[] args) throws Exception {
        read(Path.of("src/main/java/LastJars.java"));
        check.promise("rule 4");
        calls.values().forEach(all -> all.forEach(CallTest::isOwnOrOfTheLibrary));
        check.promise("rules 8 and 11");
        for (String body : bodies.keySet()) {
            List<String> longest = longest(body, new ArrayDeque<>());
            check.holds("calls " + longest.size() + " deep: " + longest, longest.size() <= DEEPEST);
        }
        check.end();
    }

    private static void read(Path file) throws Exception {
        JavaCompiler compiler = ToolProvider.getSystemJavaCompiler();
        StandardJavaFileManager files = compiler.getStandardFileManager(null, null, null);
        JavacTask task = (JavacTask) compiler.getTask(null, files, null, List.of("-proc:none"), null, files.getJavaFileObjects(file));
        List<CompilationUnitTree> units = new ArrayList<>();
        task.parse().forEach(units::add);
        task.analyze();
        for (CompilationUnitTree unit : units) {
            new Reader(Trees.instance(task)).scan(unit, null);
        }
    }

    private static void isOwnOrOfTheLibrary(String call) {
        String owner = call.substring(0, call.substring(0, call.indexOf('(')).lastIndexOf('.'));
        String name = call.substring(0, call.indexOf('('));
        check.holds(call, bodies.containsKey(call) || call.equals("java.lang.Object.<init>()")
            || LIBRARY.contains(owner) && !name.endsWith("Exact") || LIBRARY_CALLS.contains(name));
    }

    /** The longest chain of calls from a body on; a body that calls itself counts once, others in a ring are no chain. */
    private static List<String> longest(String body, Deque<String> open) {
        List<String> best = List.of();
        open.push(body);
        for (String next : calls.getOrDefault(body, Set.of())) {
            boolean isItself = next.equals(body);
            check.holds(body + " may call itself", !isItself || mayCallItself(body));
            check.holds("a ring of calls through " + next, isItself || !open.contains(next));
            if (!open.contains(next)) {
                List<String> behind = longest(next, open);
                best = behind.size() > best.size() ? behind : best;
            }
        }
        open.pop();
        List<String> all = new ArrayList<>(List.of(body));
        all.addAll(best);
        return all;
    }

    private static boolean mayCallItself(String body) {
        return bodies.get(body).getModifiers().containsAll(Set.of(Modifier.PRIVATE, Modifier.STATIC));
    }

    private static final class Reader extends TreePathScanner<Void, Void> {
        private final Trees trees;
        private String body = "";

        Reader(Trees trees) {
            this.trees = trees;
        }

        private static String name(Element method) {
            return method.getEnclosingElement() + "." + method.getSimpleName()
                + method.toString().substring(method.toString().indexOf('('));
        }

        /** What stands at the fields is run by the constructor. */
        @Override
        public Void visitClass(ClassTree tree, Void none) {
            String outer = body;
            for (Element member : trees.getElement(getCurrentPath()).getEnclosedElements()) {
                if (member.getKind() == ElementKind.CONSTRUCTOR) {
                    body = name(member);
                }
            }
            super.visitClass(tree, none);
            body = outer;
            return null;
        }

        @Override
        public Void visitMethod(MethodTree tree, Void none) {
            String outer = body;
            Element method = trees.getElement(getCurrentPath());
            body = name(method);
            bodies.put(body, method);
            super.visitMethod(tree, none);
            body = outer;
            return null;
        }

        @Override
        public Void visitMethodInvocation(MethodInvocationTree tree, Void none) {
            note(trees.getElement(getCurrentPath()));
            return super.visitMethodInvocation(tree, none);
        }

        @Override
        public Void visitNewClass(NewClassTree tree, Void none) {
            note(trees.getElement(getCurrentPath()));
            return super.visitNewClass(tree, none);
        }

        private void note(Element called) {
            calls.computeIfAbsent(body, b -> new TreeSet<>()).add(name(called));
        }
    }
}
