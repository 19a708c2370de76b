import com.sun.source.tree.BinaryTree;
import com.sun.source.tree.BlockTree;
import com.sun.source.tree.ClassTree;
import com.sun.source.tree.CompilationUnitTree;
import com.sun.source.tree.ExpressionTree;
import com.sun.source.tree.ForLoopTree;
import com.sun.source.tree.IdentifierTree;
import com.sun.source.tree.LineMap;
import com.sun.source.tree.LiteralTree;
import com.sun.source.tree.MethodInvocationTree;
import com.sun.source.tree.MethodTree;
import com.sun.source.tree.NewArrayTree;
import com.sun.source.tree.NewClassTree;
import com.sun.source.tree.ThrowTree;
import com.sun.source.tree.Tree;
import com.sun.source.tree.Tree.Kind;
import com.sun.source.tree.VariableTree;
import com.sun.source.util.JavacTask;
import com.sun.source.util.SourcePositions;
import com.sun.source.util.TreePathScanner;
import com.sun.source.util.Trees;
import java.io.File;
import java.io.IOException;
import java.util.HashMap;
import java.util.HashSet;
import java.util.List;
import java.util.Map;
import java.util.Set;
import java.util.TreeMap;
import java.util.TreeSet;
import javax.lang.model.element.Element;
import javax.lang.model.element.ElementKind;
import javax.lang.model.element.ExecutableElement;
import javax.lang.model.element.Modifier;
import javax.lang.model.element.VariableElement;
import javax.lang.model.type.ArrayType;
import javax.lang.model.type.DeclaredType;
import javax.lang.model.type.TypeKind;
import javax.lang.model.type.TypeMirror;
import javax.tools.JavaCompiler;
import javax.tools.StandardJavaFileManager;
import javax.tools.ToolProvider;

/**
 * The class's source keeps to LANGUAGE.md. The class needs less than the rules leave, so less is let
 * through here: no try, no recursion, no library but Math.max, and nothing made but with the object.
 */
public final class LanguageTest extends TreePathScanner<Void, Void> {
    private static final String SOURCE = "src/main/java/FixityTrees.java";
    private static final Set<String> THROWN = Set.of(
            "IllegalStateException", "IllegalArgumentException", "IndexOutOfBoundsException");
    private static final Set<TypeKind> PLAIN_TYPES = Set.of(TypeKind.INT, TypeKind.LONG, TypeKind.BOOLEAN);
    // What the class has no need of, with the rule that rules it out or binds it.
    private static final Map<Kind, Integer> UNUSED = Map.ofEntries(
            Map.entry(Kind.PACKAGE, 1), Map.entry(Kind.LAMBDA_EXPRESSION, 2), Map.entry(Kind.MEMBER_REFERENCE, 2),
            Map.entry(Kind.IMPORT, 4), Map.entry(Kind.TRY, 6), Map.entry(Kind.SYNCHRONIZED, 6),
            Map.entry(Kind.ASSERT, 6), Map.entry(Kind.TYPE_CAST, 7), Map.entry(Kind.INSTANCE_OF, 7),
            Map.entry(Kind.NULL_LITERAL, 7), Map.entry(Kind.DIVIDE_ASSIGNMENT, 7),
            Map.entry(Kind.REMAINDER_ASSIGNMENT, 7), Map.entry(Kind.WHILE_LOOP, 9), Map.entry(Kind.DO_WHILE_LOOP, 9));

    private final Trees trees;
    private final CompilationUnitTree unit;
    // What was found against a rule, by the rule's number.
    private final Map<Integer, Set<String>> against = new TreeMap<>();
    private final Map<ExecutableElement, Set<ExecutableElement>> calls = new HashMap<>();
    private int classes = 0;

    private LanguageTest(Trees trees, CompilationUnitTree unit) {
        this.trees = trees;
        this.unit = unit;
    }

    public static void main(String[] args) throws IOException {
        JavaCompiler compiler = ToolProvider.getSystemJavaCompiler();
        try (StandardJavaFileManager files = compiler.getStandardFileManager(null, null, null)) {
            JavacTask task = (JavacTask) compiler.getTask(null, files, null, List.of("-proc:none"), null,
                    files.getJavaFileObjects(new File(SOURCE)));
            CompilationUnitTree unit = task.parse().iterator().next();
            task.analyze();
            LanguageTest test = new LanguageTest(Trees.instance(task), unit);
            test.scan(unit, null);
            test.lookAtCalls();
            test.tellAll();
        }
        Due.end();
    }

    private void tellAll() {
        tell(1, "No private method bears the name of a public one.");
        tell(2, "no local class that captures a variable, no lambda, no method reference");
        tell(3, "Types: int, long, short, byte, char, boolean, double, float; arrays of these");
        tell(4, "The library: only what stands here.");
        tell(5, "No other static state, no static initialiser block.");
        tell(6, "Exceptions: throw new E() or throw new E(\"a written text\")");
        tell(7, "a divisor before it divides, a reference against null before it is used");
        tell(8, "a guard on the depth");
        tell(9, "Every loop has an end that can be seen from its own lines");
        tell(10, "joining texts by StringBuilder (not by +)");
        tell(11, "calls that are no recursion go at most eight deep");
        tell(12, "An object may be made by any method, and none in a loop without a bound.");
        Due.is("classes were seen", () -> classes > 1 ? 1 : 0, 1);
        Due.is("calls were seen", () -> calls.size() > 17 ? 1 : 0, 1);
    }

    private void tell(int rule, String sentence) {
        Due.about("LANGUAGE.md, rule " + rule, sentence);
        Due.text("what is against it", String.join("; ", against.getOrDefault(rule, Set.of())), "");
    }

    private void find(int rule, String what, Tree tree) {
        long start = trees.getSourcePositions().getStartPosition(unit, tree);
        against.computeIfAbsent(rule, none -> new TreeSet<>())
                .add("line " + unit.getLineMap().getLineNumber(start) + ": " + what);
    }

    private void lookAtCalls() {
        Set<String> face = new HashSet<>();
        for (ExecutableElement method : calls.keySet()) {
            if (method.getModifiers().contains(Modifier.PUBLIC)) {
                face.add(method.getSimpleName().toString());
            }
        }
        for (ExecutableElement method : calls.keySet()) {
            Tree tree = trees.getTree(method);
            boolean isHidden = !method.getModifiers().contains(Modifier.PUBLIC);
            boolean isNamed = method.getKind() == ElementKind.METHOD;
            if (isHidden && isNamed && face.contains(method.getSimpleName().toString())) {
                find(1, method + " bears the name of a public one", tree);
            }
            int depth = depthOf(method, new HashSet<>());
            if (depth > 8) {
                find(11, method + " calls " + depth + " deep", tree);
            }
        }
    }

    /** How many calls stand open at once below the method, itself counted. */
    private int depthOf(ExecutableElement method, Set<ExecutableElement> above) {
        if (!above.add(method)) {
            find(8, method + " calls itself", trees.getTree(method));
            return 0;
        }
        int below = 0;
        for (ExecutableElement called : calls.getOrDefault(method, Set.of())) {
            below = Math.max(below, depthOf(called, above));
        }
        above.remove(method);
        return 1 + below;
    }

    @Override
    public Void scan(Tree tree, Void none) {
        if (tree != null && UNUSED.containsKey(tree.getKind())) {
            find(UNUSED.get(tree.getKind()), tree.toString().trim(), tree);
        }
        return super.scan(tree, none);
    }

    @Override
    public Void visitClass(ClassTree tree, Void none) {
        classes++;
        if (classes > 12) {
            find(11, "class " + tree.getSimpleName() + " is one too many", tree);
        }
        if (!(parent() instanceof CompilationUnitTree) && !(parent() instanceof ClassTree)) {
            find(2, "a class within a method", tree);
        }
        int fields = 0;
        for (Tree member : tree.getMembers()) {
            if (member instanceof BlockTree) {
                find(5, "an initialiser block", member);
            }
            boolean isField = member instanceof VariableTree;
            if (isField && !((VariableTree) member).getModifiers().getFlags().contains(Modifier.STATIC)) {
                fields++;
            }
        }
        if (fields > 20) {
            find(11, "class " + tree.getSimpleName() + " has " + fields + " fields", tree);
        }
        return super.visitClass(tree, none);
    }

    @Override
    public Void visitMethod(MethodTree tree, Void none) {
        calls.computeIfAbsent(elementOf(tree), method -> new HashSet<>());
        if (tree.getParameters().size() > 7) {
            find(11, tree.getName() + " has more than seven parameters", tree);
        }
        SourcePositions positions = trees.getSourcePositions();
        LineMap lines = unit.getLineMap();
        // A constructor that is not written has no end.
        long last = Math.max(positions.getStartPosition(unit, tree), positions.getEndPosition(unit, tree));
        if (lines.getLineNumber(last) - lines.getLineNumber(positions.getStartPosition(unit, tree)) >= 60) {
            find(11, tree.getName() + " has more than sixty lines", tree);
        }
        return super.visitMethod(tree, none);
    }

    @Override
    public Void visitVariable(VariableTree tree, Void none) {
        VariableElement variable = (VariableElement) element();
        TypeMirror type = variable.asType();
        boolean isArray = type.getKind() == TypeKind.ARRAY;
        boolean isOwnObject = type.getKind() == TypeKind.DECLARED && isOwn(((DeclaredType) type).asElement());
        TypeKind inner = isArray ? ((ArrayType) type).getComponentType().getKind() : type.getKind();
        if (!PLAIN_TYPES.contains(inner) && !isOwnObject) {
            find(3, variable + " is of type " + type, tree);
        }
        Set<Modifier> modifiers = variable.getModifiers();
        if (modifiers.contains(Modifier.STATIC) && variable.getConstantValue() == null) {
            find(5, variable + " is static and no constant", tree);
        }
        // A final field is filled by the constructor, and needs no look against null.
        boolean isField = variable.getKind() == ElementKind.FIELD;
        if (isField && (isArray || isOwnObject) && !modifiers.contains(Modifier.FINAL)) {
            find(7, variable + " may be null", tree);
        }
        return super.visitVariable(tree, none);
    }

    @Override
    public Void visitMethodInvocation(MethodInvocationTree tree, Void none) {
        ExecutableElement called = (ExecutableElement) element();
        if (isOwn(called)) {
            addCall(called);
        } else if (!tree.getMethodSelect().toString().matches("Math\\.max|super")) {
            find(4, tree.toString(), tree);
        }
        return super.visitMethodInvocation(tree, none);
    }

    @Override
    public Void visitNewClass(NewClassTree tree, Void none) {
        if (!(parent() instanceof ThrowTree)) {
            if (isOwn(element())) {
                addCall((ExecutableElement) element());
            } else {
                find(4, tree.toString(), tree);
            }
            if (method() != null && !isConstructor(method())) {
                find(12, tree + " is made by a method", tree);
            }
        }
        return super.visitNewClass(tree, none);
    }

    @Override
    public Void visitNewArray(NewArrayTree tree, Void none) {
        if (method() != null) {
            find(12, tree + " is made by a method", tree);
        }
        boolean hasOneLength = tree.getDimensions().size() == 1;
        if (!hasOneLength || constantOf(tree.getDimensions().get(0)) <= 0) {
            find(7, tree + " has no length that is seen", tree);
        }
        return super.visitNewArray(tree, none);
    }

    @Override
    public Void visitThrow(ThrowTree tree, Void none) {
        boolean isWritten = false;
        if (tree.getExpression() instanceof NewClassTree) {
            NewClassTree made = (NewClassTree) tree.getExpression();
            isWritten = THROWN.contains(made.getIdentifier().toString()) && made.getArguments().size() == 1
                    && made.getArguments().get(0).getKind() == Kind.STRING_LITERAL;
        }
        if (!isWritten || method() == null || isConstructor(method())) {
            find(6, tree.toString(), tree);
        }
        return super.visitThrow(tree, none);
    }

    @Override
    public Void visitLiteral(LiteralTree tree, Void none) {
        boolean isThrown = getCurrentPath().getParentPath().getParentPath().getLeaf() instanceof ThrowTree;
        if (tree.getKind() == Kind.STRING_LITERAL && !isThrown) {
            find(10, "a text that is not thrown: " + tree, tree);
        }
        return super.visitLiteral(tree, none);
    }

    @Override
    public Void visitBinary(BinaryTree tree, Void none) {
        boolean divides = tree.getKind() == Kind.DIVIDE || tree.getKind() == Kind.REMAINDER;
        if (divides && constantOf(tree.getRightOperand()) <= 0) {
            find(7, tree + " has no divisor that is seen", tree);
        }
        return super.visitBinary(tree, none);
    }

    @Override
    public Void visitForLoop(ForLoopTree tree, Void none) {
        if (tree.getCondition() == null || tree.getUpdate().size() != 1) {
            find(9, "a for without a bound or a step", tree);
        }
        return super.visitForLoop(tree, none);
    }

    private Element element() {
        return trees.getElement(getCurrentPath());
    }

    private Tree parent() {
        return getCurrentPath().getParentPath().getLeaf();
    }

    /** The method that holds the place, or null in a field's initialiser. */
    private MethodTree method() {
        for (Tree tree : getCurrentPath()) {
            if (tree instanceof MethodTree) {
                return (MethodTree) tree;
            }
        }
        return null;
    }

    private ExecutableElement elementOf(MethodTree method) {
        return (ExecutableElement) trees.getElement(trees.getPath(unit, method));
    }

    private void addCall(ExecutableElement called) {
        if (method() != null) {
            calls.computeIfAbsent(elementOf(method()), method -> new HashSet<>()).add(called);
        }
    }

    private static boolean isConstructor(MethodTree method) {
        return method.getReturnType() == null;
    }

    private static boolean isOwn(Element element) {
        Element at = element;
        while (at != null && !at.getSimpleName().contentEquals("FixityTrees")) {
            at = at.getEnclosingElement();
        }
        return at != null;
    }

    /** The number of a literal, of a constant, or of a product of them; else 0. */
    private int constantOf(ExpressionTree tree) {
        Object value = null;
        if (tree instanceof LiteralTree) {
            value = ((LiteralTree) tree).getValue();
        } else if (tree.getKind() == Kind.MULTIPLY) {
            BinaryTree product = (BinaryTree) tree;
            value = constantOf(product.getLeftOperand()) * constantOf(product.getRightOperand());
        } else if (tree instanceof IdentifierTree) {
            Element element = trees.getElement(trees.getPath(unit, tree));
            value = element instanceof VariableElement ? ((VariableElement) element).getConstantValue() : null;
        }
        return value instanceof Integer ? (Integer) value : 0;
    }
}
