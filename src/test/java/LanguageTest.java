import com.sun.source.tree.BinaryTree;
import com.sun.source.tree.BlockTree;
import com.sun.source.tree.ClassTree;
import com.sun.source.tree.CompilationUnitTree;
import com.sun.source.tree.ExpressionTree;
import com.sun.source.tree.ForLoopTree;
import com.sun.source.tree.MethodInvocationTree;
import com.sun.source.tree.MethodTree;
import com.sun.source.tree.NewArrayTree;
import com.sun.source.tree.NewClassTree;
import com.sun.source.tree.Tree;
import com.sun.source.tree.VariableTree;
import com.sun.source.util.JavacTask;
import com.sun.source.util.TreePath;
import com.sun.source.util.TreePathScanner;
import com.sun.source.util.Trees;
import java.io.IOException;
import java.nio.file.Files;
import java.nio.file.Path;
import java.util.ArrayList;
import java.util.HashMap;
import java.util.LinkedHashSet;
import java.util.List;
import java.util.Map;
import java.util.Set;
import javax.lang.model.element.Element;
import javax.lang.model.element.ElementKind;
import javax.lang.model.element.Modifier;
import javax.lang.model.element.VariableElement;
import javax.tools.JavaCompiler;
import javax.tools.StandardJavaFileManager;
import javax.tools.ToolProvider;

/**
 * What the compiler's tree of the class shows of LANGUAGE.md. The class is held to less than the rules
 * leave: no exceptions, no texts, no lists, loops with a counter alone, and no object made behind the
 * constructors, so that a run's calls take no room of their own.
 */
public final class LanguageTest extends TreePathScanner<Void, Void> {
    private static final Path SOURCE = Path.of("src/main/java/CandleDebts.java");

    /** Rules 3, 6, 9, 10: kinds of code that the class does without, some of them forbidden. */
    private static final Set<Tree.Kind> UNUSED = Set.of(
            Tree.Kind.LAMBDA_EXPRESSION, Tree.Kind.MEMBER_REFERENCE, Tree.Kind.TRY, Tree.Kind.THROW, Tree.Kind.CATCH,
            Tree.Kind.SYNCHRONIZED, Tree.Kind.ASSERT, Tree.Kind.INSTANCE_OF, Tree.Kind.TYPE_CAST, Tree.Kind.WHILE_LOOP,
            Tree.Kind.DO_WHILE_LOOP, Tree.Kind.ENHANCED_FOR_LOOP, Tree.Kind.STRING_LITERAL, Tree.Kind.DOUBLE_LITERAL,
            Tree.Kind.FLOAT_LITERAL, Tree.Kind.NULL_LITERAL, Tree.Kind.IMPORT, Tree.Kind.PACKAGE, Tree.Kind.ANNOTATION,
            Tree.Kind.SWITCH_EXPRESSION, Tree.Kind.LABELED_STATEMENT, Tree.Kind.ENUM, Tree.Kind.RECORD,
            Tree.Kind.INTERFACE);

    private static final Set<String> TYPES = Set.of(
            "int", "long", "boolean", "int[]", "boolean[]", "Town", "Pad", "Play", "Walk", "Sneezing");

    private static final Set<String> LIBRARY = Set.of(
            "Math.min", "Math.max", "Math.abs", "Integer.bitCount", "System.arraycopy");

    /** Rule 7: divisors that are no constants; the first two are above 0 by the loop or the test beside them, burn by burnTrimmed. */
    private static final Set<String> DIVISORS = Set.of("rest", "common", "burn");

    /** Rule 11 leaves eight; one is kept free for who calls, or for the library's own. */
    private static final int MOST_DEEP = 7;

    private final Trees trees;
    private final CompilationUnitTree unit;
    private final Map<Element, Set<Element>> calls = new HashMap<>();
    private int classes = 0;
    private int wrong = 0;

    private LanguageTest(Trees trees, CompilationUnitTree unit) {
        this.trees = trees;
        this.unit = unit;
    }

    private long lineOf(long at) {
        return unit.getLineMap().getLineNumber(at);
    }

    private void complain(Tree tree, String why) {
        wrong++;
        System.out.println("line " + lineOf(trees.getSourcePositions().getStartPosition(unit, tree)) + ": " + why);
    }

    private void check(boolean good, Tree tree, String why) {
        if (!good) {
            complain(tree, why);
        }
    }

    private Element elementOf(Tree tree) {
        return trees.getElement(new TreePath(getCurrentPath(), tree));
    }

    private Element methodAround() {
        for (TreePath p = getCurrentPath(); p != null; p = p.getParentPath()) {
            if (p.getLeaf() instanceof MethodTree) {
                return trees.getElement(p);
            }
        }
        return null;
    }

    @Override
    public Void scan(Tree tree, Void none) {
        if (tree != null) {
            check(!UNUSED.contains(tree.getKind()), tree, "rules 3, 6, 9, 10: " + tree.getKind());
        }
        return super.scan(tree, none);
    }

    @Override
    public Void visitClass(ClassTree tree, Void none) {
        classes++;
        int fields = 0;
        for (Tree member : tree.getMembers()) {
            boolean field = member instanceof VariableTree v && !v.getModifiers().getFlags().contains(Modifier.STATIC);
            fields += field ? 1 : 0;
            check(!(member instanceof BlockTree), member, "rule 5: a block of a class");
        }
        boolean inside = !tree.getSimpleName().contentEquals("CandleDebts");
        check(!inside || tree.getModifiers().getFlags().contains(Modifier.STATIC), tree, "rule 2: a class inside that is not static");
        check(fields <= 20, tree, "rule 11: more than twenty fields: " + fields);
        return super.visitClass(tree, none);
    }

    @Override
    public Void visitMethod(MethodTree tree, Void none) {
        calls.put(trees.getElement(getCurrentPath()), new LinkedHashSet<>());
        check(tree.getParameters().size() <= 7, tree, "rule 11: more than seven parameters");
        long first = lineOf(trees.getSourcePositions().getStartPosition(unit, tree));
        long last = lineOf(trees.getSourcePositions().getEndPosition(unit, tree));
        check(last - first < 60, tree, "rule 11: a method of more than sixty lines");
        return super.visitMethod(tree, none);
    }

    @Override
    public Void visitVariable(VariableTree tree, Void none) {
        check(TYPES.contains(tree.getType().toString()), tree, "rule 3: a type that is not used here: " + tree.getType());
        Set<Modifier> flags = tree.getModifiers().getFlags();
        check(!flags.contains(Modifier.STATIC) || flags.contains(Modifier.FINAL), tree, "rule 5: a static field that is not final");
        if (flags.contains(Modifier.STATIC)) {
            VariableElement field = (VariableElement) trees.getElement(getCurrentPath());
            boolean written = tree.getInitializer() instanceof NewArrayTree row && row.getDimensions().isEmpty();
            check(written || field.getConstantValue() != null, tree, "rule 5: a static field that is not written out");
        }
        return super.visitVariable(tree, none);
    }

    @Override
    public Void visitMethodInvocation(MethodInvocationTree tree, Void none) {
        Element called = elementOf(tree.getMethodSelect());
        boolean own = called.getEnclosingElement().toString().startsWith("CandleDebts");
        String name = called.getEnclosingElement().getSimpleName() + "." + called.getSimpleName();
        boolean superCall = tree.getMethodSelect().toString().equals("super");
        check(own || superCall || LIBRARY.contains(name), tree, "rule 4: not in the library: " + name);
        Element around = methodAround();
        if (own && around != null) {
            calls.get(around).add(called);
        }
        return super.visitMethodInvocation(tree, none);
    }

    /** Rule 12: an object is made as a field's first value or in a constructor; a written out row may be a constant. */
    private void checkMaking(Tree tree) {
        Element around = methodAround();
        check(around == null || around.getKind() == ElementKind.CONSTRUCTOR, tree, "rule 12: an object made by a call");
        for (TreePath p = getCurrentPath(); p != null; p = p.getParentPath()) {
            check(!(p.getLeaf() instanceof ForLoopTree), tree, "rule 12: an object made in a loop");
        }
    }

    @Override
    public Void visitNewClass(NewClassTree tree, Void none) {
        checkMaking(tree);
        Element around = methodAround();
        if (around != null) {
            calls.get(around).add(elementOf(tree));
        }
        return super.visitNewClass(tree, none);
    }

    @Override
    public Void visitNewArray(NewArrayTree tree, Void none) {
        checkMaking(tree);
        for (ExpressionTree length : tree.getDimensions()) {
            check(isConstant(length), length, "rule 7: a length that is no constant");
        }
        return super.visitNewArray(tree, none);
    }

    private boolean isConstant(ExpressionTree tree) {
        if (tree.getKind() == Tree.Kind.INT_LITERAL) {
            return true;
        }
        if (tree instanceof BinaryTree both) {
            return isConstant(both.getLeftOperand()) && isConstant(both.getRightOperand());
        }
        return elementOf(tree) instanceof VariableElement v && v.getConstantValue() != null;
    }

    @Override
    public Void visitBinary(BinaryTree tree, Void none) {
        if (tree.getKind() == Tree.Kind.DIVIDE || tree.getKind() == Tree.Kind.REMAINDER) {
            ExpressionTree by = tree.getRightOperand();
            check(isConstant(by) || DIVISORS.contains(by.toString()), tree, "rule 7: a divisor not looked at: " + by);
        }
        return super.visitBinary(tree, none);
    }

    /** Rule 9: a counter that begins in the loop's head, is in its test, and grows by one. */
    @Override
    public Void visitForLoop(ForLoopTree tree, Void none) {
        boolean one = tree.getInitializer().size() == 1 && tree.getInitializer().get(0) instanceof VariableTree && tree.getUpdate().size() == 1;
        check(one, tree, "rule 9: a loop without one counter");
        if (one) {
            String counter = ((VariableTree) tree.getInitializer().get(0)).getName().toString();
            String test = String.valueOf(tree.getCondition());
            check(tree.getUpdate().get(0).toString().equals(counter + "++;"), tree, "rule 9: its counter does not grow");
            check(test.matches("(.*\\b)?" + counter + "( \\+ \\w+)? <=? .*|.*\\+ " + counter + " <=? .*"), tree, "rule 9: its counter has no bound");
            check(!test.contains("||"), tree, "rule 9: it may go on beyond its counter's bound");
        }
        return super.visitForLoop(tree, none);
    }

    /** Rules 8, 11: no recursion here, and not too deep. */
    private int depthOf(Element method, List<Element> open) {
        if (open.contains(method)) {
            wrong++;
            System.out.println("rule 8: " + method + " calls itself");
            return 0;
        }
        int deepest = 0;
        for (Element called : calls.getOrDefault(method, Set.of())) {
            List<Element> further = new ArrayList<>(open);
            further.add(method);
            deepest = Math.max(deepest, depthOf(called, further));
        }
        return deepest + 1;
    }

    private void checkWhole() {
        check(classes <= 12, unit, "rule 11: more than twelve classes");
        for (Element method : calls.keySet()) {
            int depth = depthOf(method, List.of());
            if (depth > MOST_DEEP) {
                wrong++;
                System.out.println("rule 11: calls more than " + MOST_DEEP + " deep: " + method + " with " + depth);
            }
        }
        if (calls.size() < 31) {
            wrong++;
            System.out.println("the tree was not read");
        }
    }

    private static int signs() throws IOException {
        int odd = 0;
        String text = Files.readString(SOURCE);
        for (int i = 0; i < text.length(); i++) {
            char sign = text.charAt(i);
            odd += sign == '\n' || sign >= 32 && sign <= 126 ? 0 : 1;
        }
        if (odd != 0) {
            System.out.println("rule 4: signs that are not plain: " + odd);
        }
        return odd;
    }

    public static void main(String[] args) throws IOException {
        JavaCompiler compiler = ToolProvider.getSystemJavaCompiler();
        int wrong = signs();
        try (StandardJavaFileManager files = compiler.getStandardFileManager(null, null, null)) {
            List<String> options = List.of("--release", "17", "-proc:none");
            JavacTask task = (JavacTask) compiler.getTask(null, files, null, options, null, files.getJavaFileObjects(SOURCE));
            CompilationUnitTree unit = task.parse().iterator().next();
            task.analyze();
            LanguageTest test = new LanguageTest(Trees.instance(task), unit);
            test.scan(new TreePath(unit), null);
            test.checkWhole();
            wrong += test.wrong;
        }
        if (wrong != 0) {
            System.exit(1);
        }
    }
}
