import com.sun.source.tree.ClassTree;
import com.sun.source.tree.CompilationUnitTree;
import com.sun.source.tree.ExpressionTree;
import com.sun.source.tree.IdentifierTree;
import com.sun.source.tree.MemberSelectTree;
import com.sun.source.tree.MethodInvocationTree;
import com.sun.source.tree.MethodTree;
import com.sun.source.tree.NewClassTree;
import com.sun.source.tree.Tree;
import com.sun.source.tree.VariableTree;
import com.sun.source.util.JavacTask;
import com.sun.source.util.SourcePositions;
import com.sun.source.util.TreeScanner;
import com.sun.source.util.Trees;
import java.io.IOException;
import java.nio.file.Path;
import java.util.Map;
import java.util.Set;
import java.util.TreeMap;
import java.util.TreeSet;
import javax.lang.model.element.Modifier;
import javax.tools.JavaCompiler;
import javax.tools.StandardJavaFileManager;
import javax.tools.ToolProvider;

/** Rules of LANGUAGE.md that are seen in how the program is written: how long, how deep, what is made and handed out where. */
public final class LanguageTest {
    private static final Path PROGRAM = Path.of("src/main/java/KnivesLaid.java");
    private static final int LONGEST_METHOD = 60;
    private static final int DEEPEST = 8;
    private static final int MOST_CLASSES = 12;
    private static final int MOST_FIELDS = 20;
    private static final Run R = new Run("the language");

    /** What is called by each method, by the methods' own names: two of one name are taken as one, which can only be deeper. */
    private static final Map<String, Set<String>> CALLS = new TreeMap<>();

    public static void main(String[] args) throws IOException {
        JavaCompiler compiler = ToolProvider.getSystemJavaCompiler();
        try (StandardJavaFileManager files = compiler.getStandardFileManager(null, null, null)) {
            JavacTask task = (JavacTask) compiler.getTask(null, files, null, null, null, files.getJavaFileObjects(PROGRAM));
            CompilationUnitTree unit = task.parse().iterator().next();
            Scanner scanner = new Scanner(unit, Trees.instance(task).getSourcePositions());
            scanner.scan(unit, null);
            R.same("classes", scanner.classes > MOST_CLASSES ? scanner.classes : 0, 0);
        }
        depths();
        Run.end();
    }

    private static void depths() {
        R.same("methods are seen", CALLS.containsKey("dinner") && CALLS.containsKey("isWord") ? 1 : 0, 1);
        for (String method : CALLS.keySet()) {
            int depth = depth(method, new TreeSet<>());
            R.same("calls below " + method, depth > DEEPEST ? depth : 0, 0);
        }
    }

    /** How many calls stand open at once in it, itself among them; the library's own methods are one each. */
    private static int depth(String method, Set<String> open) {
        if (!open.add(method)) {
            R.same(method + " calls itself", 1, 0);
            return 0;
        }
        int below = 0;
        for (String called : CALLS.getOrDefault(method, Set.of())) {
            below = Math.max(below, depth(called, open));
        }
        open.remove(method);
        return below + 1;
    }

    private static final class Scanner extends TreeScanner<Void, Void> {
        private final CompilationUnitTree unit;
        private final SourcePositions positions;
        private String method = "";
        private int classes = 0;

        Scanner(CompilationUnitTree unit, SourcePositions positions) {
            this.unit = unit;
            this.positions = positions;
        }

        @Override
        public Void visitClass(ClassTree c, Void none) {
            classes++;
            int fields = 0;
            for (Tree member : c.getMembers()) {
                if (member instanceof VariableTree v) {
                    Set<Modifier> how = v.getModifiers().getFlags();
                    boolean isStatic = how.contains(Modifier.STATIC);
                    fields += isStatic ? 0 : 1;
                    R.same(v.getName() + " is static, but may change", isStatic && !how.contains(Modifier.FINAL) ? 1 : 0, 0);
                }
            }
            R.same("fields of " + c.getSimpleName(), fields > MOST_FIELDS ? fields : 0, 0);
            return super.visitClass(c, none);
        }

        @Override
        public Void visitMethod(MethodTree m, Void none) {
            String outer = method;
            method = m.getReturnType() == null ? "<made>" : m.getName().toString();
            CALLS.computeIfAbsent(method, name -> new TreeSet<>());
            long lines = line(positions.getEndPosition(unit, m)) - line(positions.getStartPosition(unit, m)) + 1;
            R.same("lines of " + m.getName(), lines > LONGEST_METHOD ? lines : 0, 0);
            super.visitMethod(m, none);
            method = outer;
            return null;
        }

        private long line(long position) {
            return unit.getLineMap().getLineNumber(position);
        }

        @Override
        public Void visitMethodInvocation(MethodInvocationTree call, Void none) {
            ExpressionTree called = call.getMethodSelect();
            String name = called instanceof MemberSelectTree m ? m.getIdentifier().toString() : called.toString();
            // A constructor's super() is the machine's own.
            if (!name.equals("super")) {
                CALLS.get(method).add(name);
            }
            return super.visitMethodInvocation(call, none);
        }

        /** Objects are made in constructors alone, and of nothing that belongs to the object being made. */
        @Override
        public Void visitNewClass(NewClassTree made, Void none) {
            R.same("made in " + method + ": " + made, method.equals("<made>") ? 1 : 0, 1);
            for (ExpressionTree given : made.getArguments()) {
                R.same("handed out: " + given, given instanceof IdentifierTree ? 1 : 0, 0);
            }
            return super.visitNewClass(made, none);
        }
    }
}
