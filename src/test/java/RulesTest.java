import com.sun.source.tree.ArrayAccessTree;
import com.sun.source.tree.AssignmentTree;
import com.sun.source.tree.BinaryTree;
import com.sun.source.tree.BlockTree;
import com.sun.source.tree.ClassTree;
import com.sun.source.tree.CompilationUnitTree;
import com.sun.source.tree.CompoundAssignmentTree;
import com.sun.source.tree.ExpressionTree;
import com.sun.source.tree.ForLoopTree;
import com.sun.source.tree.LiteralTree;
import com.sun.source.tree.MethodInvocationTree;
import com.sun.source.tree.MethodTree;
import com.sun.source.tree.NewArrayTree;
import com.sun.source.tree.NewClassTree;
import com.sun.source.tree.SwitchTree;
import com.sun.source.tree.Tree;
import com.sun.source.tree.UnaryTree;
import com.sun.source.tree.VariableTree;
import com.sun.source.tree.WhileLoopTree;
import com.sun.source.util.JavacTask;
import com.sun.source.util.TreePath;
import com.sun.source.util.TreePathScanner;
import com.sun.source.util.Trees;
import java.io.IOException;
import java.nio.file.Path;
import java.util.EnumSet;
import java.util.List;
import java.util.Map;
import java.util.Set;
import java.util.TreeMap;
import java.util.TreeSet;
import javax.lang.model.element.Element;
import javax.lang.model.element.ElementKind;
import javax.lang.model.element.Modifier;
import javax.lang.model.element.VariableElement;
import javax.lang.model.type.ArrayType;
import javax.lang.model.type.TypeKind;
import javax.lang.model.type.TypeMirror;
import javax.tools.JavaCompiler;
import javax.tools.StandardJavaFileManager;
import javax.tools.ToolProvider;

/** The rules of LANGUAGE.md that can be told from the compiler's own tree of OneKey.java. */
public final class RulesTest extends TreePathScanner<Void, Void> {
    private static final Due due = new Due("RulesTest");
    private static final Path SOURCE = Path.of("src/main/java/OneKey.java");
    private static final int MOST_DEEP = 8, MOST_PARAMETERS = 7, MOST_LINES = 60, MOST_CLASSES = 12, MOST_FIELDS = 20;

    /** Of what rule 4 lists, that which is used here; one more is put here only if rule 4 has it. */
    private static final Set<String> LIBRARY = Set.of("java.lang.Object.<init>", "java.lang.String.length",
        "java.lang.String.charAt", "java.lang.Integer.bitCount", "java.lang.Math.max", "java.lang.System.arraycopy",
        "java.util.Arrays.fill");

    private static final Set<Tree.Kind> NEVER = EnumSet.of(Tree.Kind.LAMBDA_EXPRESSION, Tree.Kind.MEMBER_REFERENCE,
        Tree.Kind.THROW, Tree.Kind.TRY, Tree.Kind.CATCH, Tree.Kind.SYNCHRONIZED, Tree.Kind.ASSERT, Tree.Kind.PACKAGE,
        Tree.Kind.BINDING_PATTERN, Tree.Kind.FLOAT_LITERAL, Tree.Kind.DOUBLE_LITERAL);

    private static final Set<Tree.Kind> COUNTING = EnumSet.of(Tree.Kind.PREFIX_INCREMENT, Tree.Kind.PREFIX_DECREMENT,
        Tree.Kind.POSTFIX_INCREMENT, Tree.Kind.POSTFIX_DECREMENT);

    private final Trees trees;
    private final CompilationUnitTree unit;
    private final Map<String, Set<String>> calls = new TreeMap<>();
    private final Map<String, Integer> depths = new TreeMap<>();
    private final Set<String> publicNames = new TreeSet<>();
    private final Set<String> otherNames = new TreeSet<>();
    private int classes;

    private RulesTest(Trees trees, CompilationUnitTree unit) {
        this.trees = trees;
        this.unit = unit;
    }

    public static void main(String[] args) throws IOException {
        JavaCompiler compiler = ToolProvider.getSystemJavaCompiler();
        try (StandardJavaFileManager files = compiler.getStandardFileManager(null, null, null)) {
            JavacTask task = (JavacTask) compiler.getTask(null, files, null, List.of("--release", "17"), null,
                files.getJavaFileObjects(SOURCE));
            CompilationUnitTree unit = task.parse().iterator().next();
            task.analyze();
            new RulesTest(Trees.instance(task), unit).look();
        }
        due.end();
    }

    private void look() {
        scan(unit, null);
        due.holds("rule 11: " + classes + " classes", classes <= MOST_CLASSES);
        for (String name : otherNames) {
            due.holds("rule 1: " + name + " is the name of no public method", !publicNames.contains(name));
        }
        int deepest = 0;
        for (String method : calls.keySet()) {
            deepest = Math.max(deepest, depth(method, ""));
        }
        due.holds("rule 11: calls go " + deepest + " deep", deepest <= MOST_DEEP);
    }

    /** How many own methods stand open at once at most from this one on. */
    private int depth(String method, String above) {
        boolean open = above.contains("<" + method + ">");
        due.holds("rule 8: " + method + " does not call itself", !open);
        if (open || !calls.containsKey(method)) {
            return 0;
        }
        if (!depths.containsKey(method)) {
            int deepest = 0;
            for (String called : calls.get(method)) {
                deepest = Math.max(deepest, depth(called, above + "<" + method + ">"));
            }
            depths.put(method, deepest + 1);
        }
        return depths.get(method);
    }

    @Override
    public Void scan(Tree tree, Void none) {
        if (tree != null) {
            due.holds("rules 2, 6: no " + tree.getKind() + " in " + lineOf(tree), !NEVER.contains(tree.getKind()));
        }
        return super.scan(tree, none);
    }

    @Override
    public Void visitClass(ClassTree tree, Void none) {
        classes++;
        Element element = elementHere();
        boolean outermost = element.getEnclosingElement().getKind() == ElementKind.PACKAGE;
        Set<Modifier> flags = element.getModifiers();
        due.holds("rule 2: " + element + " is static, within a class",
            outermost || flags.contains(Modifier.STATIC) && element.getEnclosingElement().getKind().isClass());
        due.holds("rule 1: " + element + " is public only if outermost", flags.contains(Modifier.PUBLIC) == outermost);
        int fields = 0;
        for (Tree member : tree.getMembers()) {
            due.holds("rule 5: no block of its own in " + element, member.getKind() != Tree.Kind.BLOCK);
            if (member instanceof VariableTree field && !field.getModifiers().getFlags().contains(Modifier.STATIC)) {
                fields++;
            }
        }
        due.holds("rule 11: " + element + " has " + fields + " fields", fields <= MOST_FIELDS);
        return super.visitClass(tree, none);
    }

    @Override
    public Void visitMethod(MethodTree tree, Void none) {
        String name = nameOf(elementHere());
        calls.putIfAbsent(name, new TreeSet<>());
        boolean open = tree.getModifiers().getFlags().contains(Modifier.PUBLIC);
        if (!tree.getName().contentEquals("<init>")) {
            (open ? publicNames : otherNames).add(tree.getName().toString());
        }
        due.holds("rule 11: " + name + "'s parameters", tree.getParameters().size() <= MOST_PARAMETERS);
        long first = trees.getSourcePositions().getStartPosition(unit, tree);
        long last = trees.getSourcePositions().getEndPosition(unit, tree);
        long lines = last < 0 ? 1 : unit.getLineMap().getLineNumber(last) - unit.getLineMap().getLineNumber(first) + 1;
        due.holds("rule 11: " + name + " has " + lines + " lines", lines <= MOST_LINES);
        if (tree.getReturnType() != null) {
            typeIsTold(trees.getTypeMirror(new TreePath(getCurrentPath(), tree.getReturnType())), tree);
        }
        return super.visitMethod(tree, none);
    }

    @Override
    public Void visitVariable(VariableTree tree, Void none) {
        Element element = elementHere();
        typeIsTold(element.asType(), tree);
        if (element.getModifiers().contains(Modifier.STATIC)) {
            boolean writtenOut = tree.getInitializer() instanceof NewArrayTree row && row.getInitializers() != null;
            boolean constant = ((VariableElement) element).getConstantValue() != null;
            due.holds("rule 5: " + element + " is final", element.getModifiers().contains(Modifier.FINAL));
            due.holds("rule 5: " + element + " is a constant or a row written out", constant || writtenOut);
        }
        return super.visitVariable(tree, none);
    }

    @Override
    public Void visitMethodInvocation(MethodInvocationTree tree, Void none) {
        noteCall(elementHere(), tree);
        return super.visitMethodInvocation(tree, none);
    }

    @Override
    public Void visitNewClass(NewClassTree tree, Void none) {
        due.holds("rule 2: no class without a name in " + lineOf(tree), tree.getClassBody() == null);
        due.holds("rule 12: no object is made in a loop in " + lineOf(tree), !isInLoop());
        noteCall(elementHere(), tree);
        return super.visitNewClass(tree, none);
    }

    @Override
    public Void visitNewArray(NewArrayTree tree, Void none) {
        due.holds("rule 12: no array is made in a loop in " + lineOf(tree), !isInLoop());
        return super.visitNewArray(tree, none);
    }

    @Override
    public Void visitBinary(BinaryTree tree, Void none) {
        TypeKind left = typeOf(tree.getLeftOperand()).getKind();
        TypeKind right = typeOf(tree.getRightOperand()).getKind();
        boolean withNull = left == TypeKind.NULL || right == TypeKind.NULL;
        due.holds("rules 6, 10: numbers alone in " + lineOf(tree), left.isPrimitive() && right.isPrimitive() || withNull);
        if (tree.getKind() == Tree.Kind.DIVIDE || tree.getKind() == Tree.Kind.REMAINDER) {
            divisorIsLookedAt(tree.getRightOperand());
        }
        return super.visitBinary(tree, none);
    }

    @Override
    public Void visitCompoundAssignment(CompoundAssignmentTree tree, Void none) {
        boolean divides = tree.getKind() == Tree.Kind.DIVIDE_ASSIGNMENT || tree.getKind() == Tree.Kind.REMAINDER_ASSIGNMENT;
        due.holds("rule 7: no division by " + lineOf(tree), !divides);
        notStatic(tree.getVariable());
        return super.visitCompoundAssignment(tree, none);
    }

    @Override
    public Void visitAssignment(AssignmentTree tree, Void none) {
        notStatic(tree.getVariable());
        return super.visitAssignment(tree, none);
    }

    @Override
    public Void visitUnary(UnaryTree tree, Void none) {
        if (COUNTING.contains(tree.getKind())) {
            notStatic(tree.getExpression());
        }
        return super.visitUnary(tree, none);
    }

    @Override
    public Void visitWhileLoop(WhileLoopTree tree, Void none) {
        due.holds("rule 9: a bound in " + lineOf(tree), tree.getCondition().toString().contains("<"));
        return super.visitWhileLoop(tree, none);
    }

    @Override
    public Void visitForLoop(ForLoopTree tree, Void none) {
        String condition = tree.getCondition() == null ? "" : tree.getCondition().toString();
        due.holds("rule 9: a bound in " + lineOf(tree), condition.contains("<") || condition.contains(">"));
        return super.visitForLoop(tree, none);
    }

    @Override
    public Void visitSwitch(SwitchTree tree, Void none) {
        due.holds("rule 10: a switch on numbers in " + lineOf(tree), typeOf(tree.getExpression()).getKind().isPrimitive());
        return super.visitSwitch(tree, none);
    }

    @Override
    public Void visitLiteral(LiteralTree tree, Void none) {
        if (tree.getValue() instanceof String text) {
            due.holds("rule 4: signs of " + text, text.chars().allMatch(sign -> sign >= 1 && sign <= 127));
        }
        return super.visitLiteral(tree, none);
    }

    private void noteCall(Element called, Tree tree) {
        String name = nameOf(called);
        if (isOwn(called)) {
            for (String caller : callersHere()) {
                calls.computeIfAbsent(caller, key -> new TreeSet<>()).add(name);
            }
        } else {
            due.holds("rule 4: " + name + " in " + lineOf(tree), LIBRARY.contains(name));
        }
    }

    /** The method around this place; around a field's first value stand the constructors. */
    private List<String> callersHere() {
        for (TreePath path = getCurrentPath(); path != null; path = path.getParentPath()) {
            if (path.getLeaf() instanceof MethodTree) {
                return List.of(nameOf(trees.getElement(path)));
            }
            if (path.getLeaf() instanceof ClassTree) {
                return trees.getElement(path).getEnclosedElements().stream()
                    .filter(member -> member.getKind() == ElementKind.CONSTRUCTOR).map(RulesTest::nameOf).toList();
            }
        }
        return List.of();
    }

    private boolean isInLoop() {
        for (TreePath path = getCurrentPath(); path != null; path = path.getParentPath()) {
            switch (path.getLeaf().getKind()) {
                case FOR_LOOP, ENHANCED_FOR_LOOP, WHILE_LOOP, DO_WHILE_LOOP:
                    return true;
                default:
                    break;
            }
        }
        return false;
    }

    /** A divisor is a number other than 0, or a name that the method around compares with 0. */
    private void divisorIsLookedAt(ExpressionTree divisor) {
        Element element = trees.getElement(new TreePath(getCurrentPath(), divisor));
        Object constant = element instanceof VariableElement variable ? variable.getConstantValue() : null;
        if (divisor instanceof LiteralTree literal) {
            constant = literal.getValue();
        }
        boolean looked = constant instanceof Number number && number.longValue() != 0;
        String around = bodyAround().toString();
        for (String test : List.of(" == 0", " != 0", " > 0")) {
            looked |= constant == null && around.contains(divisor + test);
        }
        due.holds("rule 7: the divisor " + divisor + " is looked at", looked);
    }

    private BlockTree bodyAround() {
        TreePath path = getCurrentPath();
        while (!(path.getLeaf() instanceof MethodTree)) {
            path = path.getParentPath();
        }
        return ((MethodTree) path.getLeaf()).getBody();
    }

    /** Rule 5: no static field is written to, nor what stands in a static row. */
    private void notStatic(ExpressionTree variable) {
        ExpressionTree base = variable;
        while (base instanceof ArrayAccessTree access) {
            base = access.getExpression();
        }
        Element element = trees.getElement(TreePath.getPath(unit, base));
        boolean changed = element instanceof VariableElement && element.getModifiers().contains(Modifier.STATIC);
        due.holds("rule 5: " + variable + " is not changed", !changed);
    }

    private void typeIsTold(TypeMirror type, Tree tree) {
        int dimensions = 0;
        TypeMirror base = type;
        while (base instanceof ArrayType array) {
            base = array.getComponentType();
            dimensions++;
        }
        boolean number = base.getKind().isPrimitive();
        boolean own = base.toString().equals("OneKey") || base.toString().startsWith("OneKey.");
        boolean told = number && dimensions <= 2 || own && dimensions <= 1;
        told |= dimensions == 0 && (base.getKind() == TypeKind.VOID || base.toString().equals("java.lang.String"));
        due.holds("rule 3: the type " + type + " in " + lineOf(tree), told);
    }

    private TypeMirror typeOf(ExpressionTree tree) {
        return trees.getTypeMirror(new TreePath(getCurrentPath(), tree));
    }

    private Element elementHere() {
        return trees.getElement(getCurrentPath());
    }

    private String lineOf(Tree tree) {
        return "line " + unit.getLineMap().getLineNumber(trees.getSourcePositions().getStartPosition(unit, tree));
    }

    private static boolean isOwn(Element method) {
        Element outermost = method;
        while (outermost.getEnclosingElement().getKind() != ElementKind.PACKAGE) {
            outermost = outermost.getEnclosingElement();
        }
        return outermost.getSimpleName().contentEquals("OneKey");
    }

    private static String nameOf(Element method) {
        return method.getEnclosingElement() + "." + method.getSimpleName();
    }
}
