import com.sun.source.tree.BinaryTree;
import com.sun.source.tree.CatchTree;
import com.sun.source.tree.ClassTree;
import com.sun.source.tree.CompilationUnitTree;
import com.sun.source.tree.ImportTree;
import com.sun.source.tree.LambdaExpressionTree;
import com.sun.source.tree.LiteralTree;
import com.sun.source.tree.MemberReferenceTree;
import com.sun.source.tree.MethodInvocationTree;
import com.sun.source.tree.MethodTree;
import com.sun.source.tree.NewClassTree;
import com.sun.source.tree.ThrowTree;
import com.sun.source.tree.Tree;
import com.sun.source.tree.TryTree;
import com.sun.source.tree.VariableTree;
import com.sun.source.util.JavacTask;
import com.sun.source.util.TreePath;
import com.sun.source.util.TreePathScanner;
import com.sun.source.util.Trees;
import java.io.IOException;
import java.nio.file.Path;
import java.util.List;
import java.util.Map;
import java.util.Set;
import java.util.TreeMap;
import java.util.TreeSet;
import java.util.regex.Pattern;
import javax.lang.model.element.Element;
import javax.lang.model.element.ElementKind;
import javax.lang.model.element.Modifier;
import javax.tools.JavaCompiler;
import javax.tools.StandardJavaFileManager;
import javax.tools.ToolProvider;

/** The rules of LANGUAGE.md that can be seen in the compiler's tree of ModemLink.java, by their numbers. */
final class LanguageTest {
    private static final Path FILE = Path.of("src/main/java/ModemLink.java");
    private static final int LINES_MOST = 60;
    private static final int PARAMETERS_MOST = 7;
    private static final int DEPTH_MOST = 8;
    private static final int FIELDS_MOST = 20;
    private static final int CLASSES_MOST = 12;

    // Rule 4, as far as the program makes use of it.
    private static final Pattern LIBRARY = Pattern.compile(
        "java\\.lang\\.(Object\\.Object\\(\\)"
        + "|String\\.(length|charAt|isEmpty|equals|indexOf|substring|toCharArray)\\(.*\\)"
        + "|(StringBuilder|AbstractStringBuilder)\\.(StringBuilder|append|charAt|setCharAt|setLength|deleteCharAt|reverse"
        + "|length|toString)\\((|char|int|int,char|java\\.lang\\.String)\\)"
        + "|(Integer|Long|Math)\\.(compare|max|min|abs|bitCount|floorDiv|floorMod|numberOfTrailingZeros)\\(.*\\)"
        + "|System\\.arraycopy\\(.*\\)|IllegalArgumentException\\.IllegalArgumentException\\(java\\.lang\\.String\\))"
        + "|java\\.util\\.NoSuchElementException\\.NoSuchElementException\\(java\\.lang\\.String\\)");

    private static final Map<String, Set<String>> CALLS = new TreeMap<>();
    private static final Map<String, Integer> DEPTHS = new TreeMap<>();
    private static final Set<String> PRIVATE = new TreeSet<>();
    private static final Set<String> PUBLIC_NAMES = new TreeSet<>();
    private static final Set<String> PRIVATE_NAMES = new TreeSet<>();

    private LanguageTest() {
    }

    public static void main(String[] args) throws IOException {
        JavaCompiler compiler = ToolProvider.getSystemJavaCompiler();
        try (StandardJavaFileManager files = compiler.getStandardFileManager(null, null, null)) {
            JavacTask task = (JavacTask) compiler.getTask(null, files, null, List.of("-proc:none"), null, files.getJavaFileObjects(FILE));
            Iterable<? extends CompilationUnitTree> units = task.parse();
            task.analyze();
            for (CompilationUnitTree unit : units) {
                Check.yes("rule 1: there is no package line", unit.getPackageName() == null);
                new Reader(unit, Trees.instance(task)).scan(unit, null);
            }
        }
        names();
        library();
        recursion();
        depth();
        Check.finish();
    }

    private static void names() {
        for (String name : PRIVATE_NAMES) {
            Check.yes("rule 1: no public method bears the name of the private one " + name, !PUBLIC_NAMES.contains(name));
        }
    }

    private static void library() {
        Set<String> used = new TreeSet<>();
        CALLS.values().forEach(used::addAll);
        used.removeAll(CALLS.keySet());
        for (String method : used) {
            boolean own = method.startsWith("ModemLink.");
            Check.yes("rule 4: the library may be used by " + method, own || LIBRARY.matcher(method).matches());
        }
    }

    private static void recursion() {
        for (String method : CALLS.keySet()) {
            if (reaches(method, method)) {
                Check.yes("rule 8: " + method + " calls itself, so it is private", PRIVATE.contains(method));
            }
        }
    }

    /** The library's methods count, too; methods that call one another are one level. */
    private static void depth() {
        for (String method : CALLS.keySet()) {
            Check.yes("rule 11: at most eight calls deep from " + method, depthOf(method) <= DEPTH_MOST);
        }
    }

    private static int depthOf(String method) {
        if (!DEPTHS.containsKey(method)) {
            int below = 0;
            for (String called : outsideCalls(method)) {
                below = Math.max(below, depthOf(called));
            }
            DEPTHS.put(method, below + 1);
        }
        return DEPTHS.get(method);
    }

    /** What a method calls, or those that it calls in turn while they call one another, but for those themselves. */
    private static Set<String> outsideCalls(String method) {
        Set<String> called = new TreeSet<>(CALLS.getOrDefault(method, Set.of()));
        for (String other : CALLS.keySet()) {
            if (reaches(method, other) && reaches(other, method)) {
                called.addAll(CALLS.get(other));
            }
        }
        called.removeIf(other -> reaches(other, method));
        return called;
    }

    private static boolean reaches(String from, String to) {
        Set<String> seen = new TreeSet<>();
        addCalled(from, seen);
        return seen.contains(to);
    }

    private static void addCalled(String method, Set<String> seen) {
        for (String called : CALLS.getOrDefault(method, Set.of())) {
            if (seen.add(called)) {
                addCalled(called, seen);
            }
        }
    }

    /** Goes through the tree; in is the method that it is in. */
    private static final class Reader extends TreePathScanner<Void, String> {
        private final CompilationUnitTree unit;
        private final Trees trees;
        private int classes;

        Reader(CompilationUnitTree unit, Trees trees) {
            this.unit = unit;
            this.trees = trees;
        }

        private Element element() {
            return trees.getElement(getCurrentPath());
        }

        private static String nameOf(Element method) {
            return method.getEnclosingElement() + "." + method;
        }

        private long line(long position) {
            return unit.getLineMap().getLineNumber(position);
        }

        private String where(Tree tree) {
            return " (line " + line(trees.getSourcePositions().getStartPosition(unit, tree)) + ")";
        }

        private void refuse(int rule, String what, Tree tree) {
            Check.yes("rule " + rule + ": no " + what + where(tree), false);
        }

        @Override
        public Void visitImport(ImportTree tree, String in) {
            Check.same("rule 4: what is imported", tree.getQualifiedIdentifier().toString(), "java.util.NoSuchElementException");
            return super.visitImport(tree, in);
        }

        @Override
        public Void visitClass(ClassTree tree, String in) {
            classes++;
            Check.yes("rule 11: at most twelve classes", classes <= CLASSES_MOST);
            Check.yes("rule 2: no class inside a method" + where(tree), in == null);
            int fields = 0;
            for (Tree member : tree.getMembers()) {
                Check.yes("rule 5: no initialiser block" + where(member), member.getKind() != Tree.Kind.BLOCK);
                boolean isField = member instanceof VariableTree;
                if (isField && !((VariableTree) member).getModifiers().getFlags().contains(Modifier.STATIC)) {
                    fields++;
                }
            }
            Check.yes("rule 11: at most twenty fields in " + tree.getSimpleName(), fields <= FIELDS_MOST);
            return super.visitClass(tree, in);
        }

        @Override
        public Void visitVariable(VariableTree tree, String in) {
            Set<Modifier> flags = tree.getModifiers().getFlags();
            if (flags.contains(Modifier.STATIC)) {
                boolean constant = flags.contains(Modifier.FINAL) && tree.getType().toString().equals("int")
                    && tree.getInitializer() != null;
                Check.yes("rule 5: " + tree.getName() + " is a constant", constant);
            }
            return super.visitVariable(tree, in);
        }

        @Override
        public Void visitMethod(MethodTree tree, String in) {
            Element method = element();
            CALLS.computeIfAbsent(nameOf(method), key -> new TreeSet<>());
            if (method.getModifiers().contains(Modifier.PRIVATE)) {
                PRIVATE.add(nameOf(method));
                PRIVATE_NAMES.add(tree.getName().toString());
            }
            if (method.getModifiers().contains(Modifier.PUBLIC) && method.getKind() == ElementKind.METHOD) {
                PUBLIC_NAMES.add(tree.getName().toString());
            }
            Check.yes("rule 11: at most seven parameters of " + tree.getName(), tree.getParameters().size() <= PARAMETERS_MOST);
            long first = line(trees.getSourcePositions().getStartPosition(unit, tree));
            long last = line(trees.getSourcePositions().getEndPosition(unit, tree));
            Check.yes("rule 11: " + tree.getName() + " is short" + where(tree), first < 0 || last - first < LINES_MOST);
            return super.visitMethod(tree, nameOf(method));
        }

        private void addCall(String in) {
            Check.yes("a call stands in a method or at a field", element() != null);
            CALLS.computeIfAbsent(in == null ? "fields" : in, key -> new TreeSet<>()).add(nameOf(element()));
        }

        @Override
        public Void visitMethodInvocation(MethodInvocationTree tree, String in) {
            addCall(in);
            return super.visitMethodInvocation(tree, in);
        }

        @Override
        public Void visitNewClass(NewClassTree tree, String in) {
            addCall(in);
            return super.visitNewClass(tree, in);
        }

        @Override
        public Void visitThrow(ThrowTree tree, String in) {
            boolean written = tree.getExpression() instanceof NewClassTree
                && ((NewClassTree) tree.getExpression()).getArguments().stream().allMatch(text -> text instanceof LiteralTree);
            Check.yes("rule 6: a new exception with a written text" + where(tree), written);
            TreePath path = getCurrentPath();
            while (!(path.getLeaf() instanceof MethodTree)) {
                path = path.getParentPath();
            }
            Check.yes("rule 6: no throw in a constructor" + where(tree), ((MethodTree) path.getLeaf()).getReturnType() != null);
            return super.visitThrow(tree, in);
        }

        @Override
        public Void visitTry(TryTree tree, String in) {
            refuse(6, "try: the class has none", tree);
            return super.visitTry(tree, in);
        }

        @Override
        public Void visitCatch(CatchTree tree, String in) {
            refuse(6, "catch: the class has none", tree);
            return super.visitCatch(tree, in);
        }

        @Override
        public Void visitLambdaExpression(LambdaExpressionTree tree, String in) {
            refuse(2, "lambda", tree);
            return super.visitLambdaExpression(tree, in);
        }

        @Override
        public Void visitMemberReference(MemberReferenceTree tree, String in) {
            refuse(2, "method reference", tree);
            return super.visitMemberReference(tree, in);
        }

        @Override
        public Void visitBinary(BinaryTree tree, String in) {
            if (tree.getKind() == Tree.Kind.PLUS) {
                Check.yes("rule 10: texts are not joined by +" + where(tree), !isText(tree.getLeftOperand()) && !isText(tree.getRightOperand()));
            }
            return super.visitBinary(tree, in);
        }

        private boolean isText(Tree tree) {
            return trees.getTypeMirror(TreePath.getPath(unit, tree)).toString().equals("java.lang.String");
        }
    }
}
