import com.sun.source.tree.AssertTree;
import com.sun.source.tree.CatchTree;
import com.sun.source.tree.ClassTree;
import com.sun.source.tree.CompilationUnitTree;
import com.sun.source.tree.LambdaExpressionTree;
import com.sun.source.tree.MemberReferenceTree;
import com.sun.source.tree.MethodInvocationTree;
import com.sun.source.tree.MethodTree;
import com.sun.source.tree.NewClassTree;
import com.sun.source.tree.SynchronizedTree;
import com.sun.source.tree.ThrowTree;
import com.sun.source.tree.Tree;
import com.sun.source.tree.TryTree;
import com.sun.source.util.JavacTask;
import com.sun.source.util.TreePathScanner;
import com.sun.source.util.Trees;
import java.io.IOException;
import java.util.ArrayList;
import java.util.HashMap;
import java.util.HashSet;
import java.util.List;
import java.util.Map;
import java.util.Set;
import java.util.TreeMap;
import java.util.TreeSet;
import javax.lang.model.element.Element;
import javax.lang.model.element.ExecutableElement;
import javax.lang.model.element.Modifier;
import javax.lang.model.element.TypeElement;
import javax.tools.JavaCompiler;
import javax.tools.StandardJavaFileManager;
import javax.tools.ToolProvider;

/** The rules of ../shared/LANGUAGE.md that can be seen in the class's own source. */
public final class RulesTest {
    private static final String SOURCE = "src/main/java/PureHouse.java";
    private static final Set<String> FACE = Set.of("feed", "text", "fault", "corner", "limit", "outs", "out",
        "count", "name", "sort", "rule", "type", "same", "mark", "back", "<init>", "NONE");
    private static final Set<String> LIBRARY = Set.of("String.length", "String.charAt", "List.add", "List.get",
        "List.size", "ArrayList.<init>", "Math.min", "IllegalStateException.<init>",
        "IllegalArgumentException.<init>", "NoSuchElementException.<init>", "Object.<init>");
    private static final Set<String> RECURSIVE = Set.of("Reader.term", "Reader.binder", "Reader.use",
        "Reader.atom", "Machine.compare", "Machine.tell", "Machine.normalize", "Judge.judge");

    private RulesTest() {
    }

    public static void main(String[] args) throws IOException {
        JavaCompiler compiler = ToolProvider.getSystemJavaCompiler();
        if (compiler == null) {
            System.out.println("this java has no compiler in it: the rules are not looked at");
            return;
        }
        Source source = read(compiler);
        sizes(source);
        face(source);
        recursion(source);
        chains(source);
        exceptions(source);
        Due.equal("rules 2 and 6: what they leave out", source.leftOut.toString(), "[]");
        source.library.removeAll(LIBRARY);
        Due.equal("rule 4: the library beyond what is allowed and needed", source.library.toString(), "[]");
        Due.end();
    }

    private static Source read(JavaCompiler compiler) throws IOException {
        StandardJavaFileManager files = compiler.getStandardFileManager(null, null, null);
        JavacTask task = (JavacTask) compiler.getTask(null, files, null, List.of("-proc:none"), null,
            files.getJavaFileObjects(SOURCE));
        Iterable<? extends CompilationUnitTree> units = task.parse();
        task.analyze();
        Source source = new Source(Trees.instance(task));
        for (CompilationUnitTree unit : units) {
            source.scan(unit, "");
        }
        return source;
    }

    /** Rule 11: "at most seven parameters. Methods stay short (some sixty lines), ... some twelve classes, ..." */
    private static void sizes(Source source) {
        Due.equal("methods of more than 60 lines", source.longMethods.toString(), "[]");
        Due.equal("methods of more than 7 parameters", source.wideMethods.toString(), "[]");
        if (source.fields.size() > 12) {
            Due.fail("there are more than 12 classes: " + source.fields.keySet());
        }
        for (String owner : source.fields.keySet()) {
            if (source.fields.get(owner) > 20) {
                Due.fail(owner + " has more than 20 fields");
            }
        }
    }

    /** Rule 1: "no other public, protected or package-visible member"; "No private method bears the name ..." */
    private static void face(Source source) {
        Due.equal("the open members", source.openMembers.toString(), new TreeSet<>(FACE).toString());
        Set<String> hidden = new TreeSet<>(source.privateMethods);
        hidden.retainAll(FACE);
        hidden.remove("<init>");
        Due.equal("private methods with public names", hidden.toString(), "[]");
    }

    /** Rule 8: those that call themselves are private ones whose depth is bounded: no other may join them. */
    private static void recursion(Source source) {
        Due.equal("recursive methods", source.recursive().toString(), new TreeSet<>(RECURSIVE).toString());
        for (String method : RECURSIVE) {
            if (!source.privateMethods.contains(method.substring(method.indexOf('.') + 1))) {
                Due.fail(method + " is not private");
            }
        }
    }

    /** Rule 11: "calls that are no recursion go at most eight deep". */
    private static void chains(Source source) {
        Set<String> recursive = source.recursive();
        for (String method : source.calls.keySet()) {
            List<String> chain = source.longestChain(method, recursive, new HashMap<>(), new HashSet<>());
            chain.removeAll(recursive);
            if (chain.size() > 8) {
                Due.fail("calls that are no recursion go " + chain.size() + " deep: " + chain);
            }
        }
    }

    /** Rule 6: "try ... never in the very method that holds the throw"; "no throw in a constructor". */
    private static void exceptions(Source source) {
        Set<String> both = new TreeSet<>(source.trying);
        both.retainAll(source.throwing);
        Due.equal("methods that try and throw", both.toString(), "[]");
        Set<String> caught = new TreeSet<>(source.caught);
        Due.equal("what is caught", caught.toString(), "[IllegalStateException]");
        for (String method : source.throwing) {
            if (method.endsWith("<init>")) {
                Due.fail(method + " throws");
            }
        }
    }

    /** What stands in the source; each method is told by its class and its name. */
    private static final class Source extends TreePathScanner<Void, String> {
        private final Trees trees;
        final Map<String, Set<String>> calls = new TreeMap<>();
        final Map<String, Integer> fields = new TreeMap<>();
        final Set<String> library = new TreeSet<>();
        final Set<String> leftOut = new TreeSet<>();
        final Set<String> longMethods = new TreeSet<>();
        final Set<String> wideMethods = new TreeSet<>();
        final Set<String> openMembers = new TreeSet<>();
        final Set<String> privateMethods = new TreeSet<>();
        final Set<String> trying = new TreeSet<>();
        final Set<String> throwing = new TreeSet<>();
        final Set<String> caught = new TreeSet<>();

        Source(Trees trees) {
            this.trees = trees;
        }

        @Override
        public Void visitClass(ClassTree tree, String method) {
            String name = tree.getSimpleName().toString();
            TypeElement element = (TypeElement) trees.getElement(getCurrentPath());
            int own = 0;
            for (Element member : element.getEnclosedElements()) {
                boolean isConstant = member.getModifiers().contains(Modifier.STATIC);
                own += member.getKind().isField() && !isConstant ? 1 : 0;
                if (name.equals("PureHouse") && !member.getModifiers().contains(Modifier.PRIVATE)) {
                    openMembers.add(member.getSimpleName().toString());
                }
            }
            fields.put(name, own);
            // What fields are given stands in no method: the constructor does it.
            return super.visitClass(tree, name + ".<init>");
        }

        @Override
        public Void visitMethod(MethodTree tree, String around) {
            Element element = trees.getElement(getCurrentPath());
            String method = nameOf(element);
            calls.computeIfAbsent(method, key -> new TreeSet<>());
            if (element.getModifiers().contains(Modifier.PRIVATE)) {
                privateMethods.add(tree.getName().toString());
            }
            if (tree.getParameters().size() > 7) {
                wideMethods.add(method);
            }
            if (lineOf(tree, true) - lineOf(tree, false) >= 60) {
                longMethods.add(method);
            }
            return super.visitMethod(tree, method);
        }

        @Override
        public Void visitMethodInvocation(MethodInvocationTree tree, String method) {
            call(method);
            return super.visitMethodInvocation(tree, method);
        }

        @Override
        public Void visitNewClass(NewClassTree tree, String method) {
            call(method);
            return super.visitNewClass(tree, method);
        }

        @Override
        public Void visitTry(TryTree tree, String method) {
            trying.add(method);
            if (tree.getFinallyBlock() != null || !tree.getResources().isEmpty()) {
                leftOut.add("finally or resources in " + method);
            }
            return super.visitTry(tree, method);
        }

        @Override
        public Void visitCatch(CatchTree tree, String method) {
            caught.add(tree.getParameter().getType().toString());
            return super.visitCatch(tree, method);
        }

        @Override
        public Void visitThrow(ThrowTree tree, String method) {
            throwing.add(method);
            return super.visitThrow(tree, method);
        }

        @Override
        public Void visitLambdaExpression(LambdaExpressionTree tree, String method) {
            leftOut.add("lambda in " + method);
            return super.visitLambdaExpression(tree, method);
        }

        @Override
        public Void visitMemberReference(MemberReferenceTree tree, String method) {
            leftOut.add("method reference in " + method);
            return super.visitMemberReference(tree, method);
        }

        @Override
        public Void visitSynchronized(SynchronizedTree tree, String method) {
            leftOut.add("synchronized in " + method);
            return super.visitSynchronized(tree, method);
        }

        @Override
        public Void visitAssert(AssertTree tree, String method) {
            leftOut.add("assert in " + method);
            return super.visitAssert(tree, method);
        }

        private void call(String method) {
            Element called = trees.getElement(getCurrentPath());
            if (trees.getTree(called) == null) {
                library.add(nameOf(called));
            } else {
                calls.computeIfAbsent(method, key -> new TreeSet<>()).add(nameOf(called));
            }
        }

        private long lineOf(Tree tree, boolean isEnd) {
            CompilationUnitTree unit = getCurrentPath().getCompilationUnit();
            var places = trees.getSourcePositions();
            long at = isEnd ? places.getEndPosition(unit, tree) : places.getStartPosition(unit, tree);
            return unit.getLineMap().getLineNumber(at);
        }

        private static String nameOf(Element element) {
            ExecutableElement method = (ExecutableElement) element;
            return method.getEnclosingElement().getSimpleName() + "." + method.getSimpleName();
        }

        Set<String> recursive() {
            Set<String> found = new TreeSet<>();
            for (String method : calls.keySet()) {
                if (reachedFrom(method).contains(method)) {
                    found.add(method);
                }
            }
            return found;
        }

        private Set<String> reachedFrom(String method) {
            Set<String> seen = new TreeSet<>();
            List<String> open = new ArrayList<>(calls.getOrDefault(method, Set.of()));
            while (!open.isEmpty()) {
                String next = open.remove(open.size() - 1);
                if (seen.add(next)) {
                    open.addAll(calls.getOrDefault(next, Set.of()));
                }
            }
            return seen;
        }

        /** The longest row of calls from a method on, by how many of them are no recursion. */
        List<String> longestChain(String method, Set<String> recursive, Map<String, List<String>> known,
                Set<String> open) {
            if (known.containsKey(method)) {
                return new ArrayList<>(known.get(method));
            }
            List<String> longest = new ArrayList<>();
            open.add(method);
            for (String called : calls.getOrDefault(method, Set.of())) {
                List<String> chain = open.contains(called) ? List.of()
                    : longestChain(called, recursive, known, open);
                if (plainCalls(chain, recursive) > plainCalls(longest, recursive)) {
                    longest = chain;
                }
            }
            open.remove(method);
            List<String> whole = new ArrayList<>(List.of(method));
            whole.addAll(longest);
            if (!recursive.contains(method)) {
                // A recursive one's row hangs on which of its fellows are open, so it is not kept.
                known.put(method, whole);
            }
            return new ArrayList<>(whole);
        }

        private static int plainCalls(List<String> chain, Set<String> recursive) {
            int plain = 0;
            for (String method : chain) {
                plain += recursive.contains(method) ? 0 : 1;
            }
            return plain;
        }
    }
}
