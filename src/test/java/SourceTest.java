import com.sun.source.tree.BinaryTree;
import com.sun.source.tree.ClassTree;
import com.sun.source.tree.CompilationUnitTree;
import com.sun.source.tree.ExpressionTree;
import com.sun.source.tree.LineMap;
import com.sun.source.tree.MethodInvocationTree;
import com.sun.source.tree.MethodTree;
import com.sun.source.tree.NewClassTree;
import com.sun.source.tree.ThrowTree;
import com.sun.source.tree.Tree;
import com.sun.source.util.JavacTask;
import com.sun.source.util.TreePath;
import com.sun.source.util.TreePathScanner;
import com.sun.source.util.Trees;
import java.nio.file.Path;
import java.util.ArrayList;
import java.util.EnumSet;
import java.util.HashMap;
import java.util.LinkedHashSet;
import java.util.List;
import java.util.Map;
import java.util.Set;
import java.util.regex.Pattern;
import javax.lang.model.element.Element;
import javax.lang.model.element.ElementKind;
import javax.lang.model.element.ExecutableElement;
import javax.lang.model.element.Modifier;
import javax.lang.model.element.TypeElement;
import javax.tools.JavaCompiler;
import javax.tools.StandardJavaFileManager;
import javax.tools.ToolProvider;

/** The rules of LANGUAGE.md that show in the source's tree: what is called and how deep, what is thrown, what divides. */
public final class SourceTest extends Check {
    private static final Path SOURCE = Path.of("src/main/java/HalfLandings.java");
    private static final int DEEPEST = 8;
    private static final int LONGEST = 60;
    private static final String THROWN = "(IllegalState|IllegalArgument|IndexOutOfBounds|Arithmetic|UnsupportedOperation|NoSuchElement|Runtime)"
        + "Exception";
    private static final Pattern LIBRARY = Pattern.compile("(Object|" + THROWN + ")\\.<init>"
        + "|String\\.(<init>|length|charAt|isEmpty|equals|indexOf|substring|toCharArray)"
        + "|StringBuilder\\.(<init>|append|charAt|setCharAt|setLength|deleteCharAt|reverse|length|toString)"
        + "|(ArrayList|List)\\.(<init>|add|get|set|remove|size|isEmpty|clear|of)"
        + "|(Integer|Long|Math)\\.\\w+(?<!Exact)|System\\.arraycopy|Arrays\\.(copyOf|copyOfRange|fill)");
    private static final Set<Tree.Kind> RULED_OUT = EnumSet.of(Tree.Kind.LAMBDA_EXPRESSION, Tree.Kind.MEMBER_REFERENCE, Tree.Kind.SYNCHRONIZED,
        Tree.Kind.ASSERT, Tree.Kind.TRY, Tree.Kind.BINDING_PATTERN, Tree.Kind.FLOAT_LITERAL, Tree.Kind.DOUBLE_LITERAL);

    public static void main(String[] args) throws Exception {
        JavaCompiler compiler = ToolProvider.getSystemJavaCompiler();
        try (StandardJavaFileManager files = compiler.getStandardFileManager(null, null, null)) {
            JavacTask task = (JavacTask) compiler.getTask(null, files, null, List.of("-proc:none"), null, files.getJavaFileObjects(SOURCE));
            Iterable<? extends CompilationUnitTree> units = task.parse();
            task.analyze();
            for (CompilationUnitTree unit : units) {
                Scanner scanner = new Scanner(Trees.instance(task), unit);
                scanner.scan(unit, null);
                scanner.tellDepths();
            }
        }
        endWith("");
    }

    private static final class Scanner extends TreePathScanner<Void, Void> {
        private final Trees trees;
        private final CompilationUnitTree unit;
        private final LineMap lines;
        // What stands outside a method is counted for the class, and so for its constructors.
        private final Map<Element, Set<Element>> calls = new HashMap<>();
        private final Map<Element, Integer> depths = new HashMap<>();
        private Element caller = null;

        Scanner(Trees trees, CompilationUnitTree unit) {
            this.trees = trees;
            this.unit = unit;
            this.lines = unit.getLineMap();
        }

        private String at(Tree tree) {
            return "line " + lines.getLineNumber(trees.getSourcePositions().getStartPosition(unit, tree)) + ": ";
        }

        @Override
        public Void scan(Tree tree, Void nothing) {
            if (tree != null && RULED_OUT.contains(tree.getKind())) {
                due(at(tree) + tree.getKind(), 1, 0);
            }
            return super.scan(tree, nothing);
        }

        @Override
        public Void visitClass(ClassTree tree, Void nothing) {
            Element outer = caller;
            caller = trees.getElement(getCurrentPath());
            super.visitClass(tree, nothing);
            caller = outer;
            return null;
        }

        @Override
        public Void visitMethod(MethodTree tree, Void nothing) {
            Element outer = caller;
            caller = trees.getElement(getCurrentPath());
            calls.computeIfAbsent(caller, k -> new LinkedHashSet<>());
            if (caller.getKind() == ElementKind.CONSTRUCTOR) {
                calls.get(caller).add(outer);
            }
            long from = lines.getLineNumber(trees.getSourcePositions().getStartPosition(unit, tree));
            long end = trees.getSourcePositions().getEndPosition(unit, tree);
            if (end >= 0) {
                due(at(tree) + tree.getName() + " is short", lines.getLineNumber(end) - from < LONGEST, true);
            }
            due(at(tree) + tree.getName() + " takes few", tree.getParameters().size() <= 7, true);
            super.visitMethod(tree, nothing);
            caller = outer;
            return null;
        }

        @Override
        public Void visitMethodInvocation(MethodInvocationTree tree, Void nothing) {
            called(tree, trees.getElement(getCurrentPath()));
            return super.visitMethodInvocation(tree, nothing);
        }

        @Override
        public Void visitNewClass(NewClassTree tree, Void nothing) {
            called(tree, trees.getElement(getCurrentPath()));
            return super.visitNewClass(tree, nothing);
        }

        private void called(Tree tree, Element target) {
            TypeElement owner = (TypeElement) target.getEnclosingElement();
            if (isOwn(owner)) {
                calls.computeIfAbsent(caller, k -> new LinkedHashSet<>()).add(target);
            } else {
                String name = owner.getSimpleName() + "." + target.getSimpleName();
                due(at(tree) + name + " is of the library's part", LIBRARY.matcher(name).matches(), true);
            }
        }

        private boolean isOwn(Element type) {
            Element e = type;
            while (e.getEnclosingElement().getKind() != ElementKind.PACKAGE) {
                e = e.getEnclosingElement();
            }
            return e.getSimpleName().contentEquals("HalfLandings");
        }

        @Override
        public Void visitThrow(ThrowTree tree, Void nothing) {
            boolean plain = tree.getExpression() instanceof NewClassTree;
            if (plain) {
                NewClassTree made = (NewClassTree) tree.getExpression();
                List<? extends ExpressionTree> with = made.getArguments();
                plain = made.getIdentifier().toString().matches(THROWN)
                    && (with.isEmpty() || with.size() == 1 && with.get(0).getKind() == Tree.Kind.STRING_LITERAL);
            }
            due(at(tree) + "throws as rule 6 has it", plain, true);
            due(at(tree) + "only walker throws", caller.getSimpleName().contentEquals("walker"), true);
            return super.visitThrow(tree, nothing);
        }

        @Override
        public Void visitBinary(BinaryTree tree, Void nothing) {
            if (tree.getKind() == Tree.Kind.DIVIDE || tree.getKind() == Tree.Kind.REMAINDER) {
                due(at(tree) + tree + ": the divisor is looked at", isLookedAt(tree.getRightOperand()), true);
            }
            return super.visitBinary(tree, nothing);
        }

        /** A number written out or a constant, or else a name that the same method compares with 0 or 1. */
        private boolean isLookedAt(ExpressionTree divisor) {
            if (divisor.getKind() == Tree.Kind.INT_LITERAL) {
                return !divisor.toString().equals("0");
            }
            Element e = trees.getElement(new TreePath(getCurrentPath(), divisor));
            if (e != null && e.getModifiers().contains(Modifier.STATIC) && e.getModifiers().contains(Modifier.FINAL)) {
                return true;
            }
            String method = String.valueOf(trees.getTree((ExecutableElement) caller));
            return Pattern.compile("\\b" + Pattern.quote(divisor.toString()) + " (== 0|!= 0|> 0|> 1)").matcher(method).find();
        }

        void tellDepths() {
            int deepest = 0;
            for (Element e : new ArrayList<>(calls.keySet())) {
                if (e.getModifiers().contains(Modifier.PUBLIC) && e.getKind() == ElementKind.METHOD) {
                    int depth = depthOf(e, new ArrayList<>());
                    deepest = Math.max(deepest, depth);
                    due(e + " is " + depth + " calls deep", depth <= DEEPEST, true);
                }
            }
            due("calls were found", deepest > 1, true);
        }

        private int depthOf(Element e, List<Element> open) {
            if (depths.containsKey(e)) {
                return depths.get(e);
            }
            if (open.contains(e)) {
                due(e + " calls itself", 1, 0);
                return 0;
            }
            open.add(e);
            int below = 0;
            for (Element target : calls.getOrDefault(e, Set.of())) {
                below = Math.max(below, depthOf(target, open));
            }
            open.remove(e);
            depths.put(e, below + 1);
            return below + 1;
        }
    }
}
