import com.sun.source.tree.ArrayAccessTree;
import com.sun.source.tree.AssignmentTree;
import com.sun.source.tree.BinaryTree;
import com.sun.source.tree.ClassTree;
import com.sun.source.tree.CompilationUnitTree;
import com.sun.source.tree.CompoundAssignmentTree;
import com.sun.source.tree.DoWhileLoopTree;
import com.sun.source.tree.ExpressionTree;
import com.sun.source.tree.ForLoopTree;
import com.sun.source.tree.IdentifierTree;
import com.sun.source.tree.LiteralTree;
import com.sun.source.tree.MemberSelectTree;
import com.sun.source.tree.MethodInvocationTree;
import com.sun.source.tree.MethodTree;
import com.sun.source.tree.NewArrayTree;
import com.sun.source.tree.NewClassTree;
import com.sun.source.tree.Tree;
import com.sun.source.tree.Tree.Kind;
import com.sun.source.tree.TypeCastTree;
import com.sun.source.tree.VariableTree;
import com.sun.source.tree.WhileLoopTree;
import com.sun.source.util.JavacTask;
import com.sun.source.util.TreePath;
import com.sun.source.util.TreePathScanner;
import com.sun.source.util.Trees;
import java.io.IOException;
import java.nio.file.Path;
import java.util.EnumSet;
import java.util.LinkedHashMap;
import java.util.LinkedHashSet;
import java.util.Map;
import java.util.Set;
import javax.lang.model.element.Element;
import javax.lang.model.element.ElementKind;
import javax.lang.model.element.ExecutableElement;
import javax.lang.model.element.Modifier;
import javax.lang.model.element.TypeElement;
import javax.lang.model.element.VariableElement;
import javax.lang.model.type.ArrayType;
import javax.lang.model.type.DeclaredType;
import javax.lang.model.type.TypeKind;
import javax.lang.model.type.TypeMirror;
import javax.tools.JavaCompiler;
import javax.tools.StandardJavaFileManager;
import javax.tools.ToolProvider;

/** Reads the program as the compiler does, and holds its tree against the rules of LANGUAGE.md. */
final class RulesTest extends TreePathScanner<Void, Void> {
    private static final Path PROGRAM = Path.of("src", "main", "java", "LockSimulator.java");
    private static final String FACE = "LockSimulator";
    private static final int MOST_PARAMETERS = 7;
    private static final int DEEPEST_CALL = 8;
    private static final int LONGEST_METHOD = 60;
    private static final int MOST_CLASSES = 12;
    private static final int MOST_FIELDS = 20;

    /** Rule 4, as far as the program could want it; each is named with its parameters. */
    private static final Set<String> LIBRARY = Set.of(
        "String.length()", "String.charAt(int)", "String.isEmpty()", "String.equals(java.lang.Object)",
        "String.substring(int)", "String.substring(int,int)", "String.toCharArray()",
        "StringBuilder.append(char)", "StringBuilder.append(java.lang.String)", "StringBuilder.append(int)",
        "StringBuilder.charAt(int)", "StringBuilder.setCharAt(int,char)", "StringBuilder.setLength(int)",
        "StringBuilder.deleteCharAt(int)", "StringBuilder.reverse()", "StringBuilder.length()",
        "StringBuilder.toString()", "StringBuilder.StringBuilder()", "Object.Object()",
        "Math.max(int,int)", "Math.min(int,int)", "Math.abs(int)", "Math.floorDiv(int,int)", "Math.floorMod(int,int)",
        "System.arraycopy(java.lang.Object,int,java.lang.Object,int,int)", "Arrays.fill(int[],int)");
    private static final Set<String> STATIC_TYPES =
        Set.of("int", "long", "boolean", "char", "java.lang.String", "int[]", "long[]", "char[]", "byte[]");
    private static final Set<String> TEXTS = Set.of("java.lang.String", "java.lang.StringBuilder");
    private static final EnumSet<Kind> FORBIDDEN = EnumSet.of(
        Kind.THROW, Kind.TRY, Kind.CATCH, Kind.SYNCHRONIZED, Kind.ASSERT, Kind.LAMBDA_EXPRESSION,
        Kind.MEMBER_REFERENCE, Kind.SWITCH_EXPRESSION, Kind.ANNOTATION, Kind.PACKAGE, Kind.INSTANCE_OF);

    private static final EnumSet<Kind> STEPS = EnumSet.of(
        Kind.POSTFIX_INCREMENT, Kind.POSTFIX_DECREMENT, Kind.PREFIX_INCREMENT, Kind.PREFIX_DECREMENT);

    private final Trees trees;
    private final CompilationUnitTree unit;
    private final Map<Element, Set<Element>> calls = new LinkedHashMap<>();
    private int classes = 0;
    private int wrong = 0;

    private RulesTest(Trees trees, CompilationUnitTree unit) {
        this.trees = trees;
        this.unit = unit;
    }

    private void tell(int rule, String what, Tree where) {
        wrong++;
        System.out.println("rule " + rule + ", line " + line(where) + ": " + what);
    }

    private long line(Tree tree) {
        return unit.getLineMap().getLineNumber(trees.getSourcePositions().getStartPosition(unit, tree));
    }

    private long lastLine(Tree tree) {
        return unit.getLineMap().getLineNumber(trees.getSourcePositions().getEndPosition(unit, tree));
    }

    private Element element(Tree tree) {
        return trees.getElement(new TreePath(getCurrentPath(), tree));
    }

    private TypeMirror type(Tree tree) {
        return trees.getTypeMirror(new TreePath(getCurrentPath(), tree));
    }

    private static boolean isOwn(Element element) {
        Element outermost = element;
        while (outermost.getEnclosingElement().getKind() != ElementKind.PACKAGE) {
            outermost = outermost.getEnclosingElement();
        }
        return outermost.getSimpleName().contentEquals(FACE);
    }

    private static boolean isAllowed(TypeMirror type) {
        if (type instanceof ArrayType array) {
            TypeMirror inside = array.getComponentType();
            boolean rows = inside instanceof ArrayType row && row.getComponentType().getKind().isPrimitive();
            return rows || inside.getKind().isPrimitive() || isOwnType(inside);
        }
        return type.getKind().isPrimitive() || isOwnType(type) || TEXTS.contains(type.toString());
    }

    private static boolean isOwnType(TypeMirror type) {
        return type instanceof DeclaredType declared && isOwn(declared.asElement());
    }

    @Override
    public Void scan(Tree tree, Void unused) {
        if (tree != null && FORBIDDEN.contains(tree.getKind())) {
            tell(6, "this may not stand here: " + tree, tree);
        }
        return super.scan(tree, unused);
    }

    @Override
    public Void visitClass(ClassTree tree, Void unused) {
        classes++;
        Element owner = trees.getElement(getCurrentPath());
        boolean face = owner.getSimpleName().contentEquals(FACE);
        if (!face && !owner.getModifiers().contains(Modifier.STATIC)) {
            tell(2, owner + " is not static", tree);
        }
        if (!face && !owner.getModifiers().contains(Modifier.FINAL)) {
            tell(12, owner + " is not final: another class could override what its constructor calls", tree);
        }
        int fields = 0;
        for (Tree member : tree.getMembers()) {
            if (member.getKind() == Kind.BLOCK) {
                tell(5, "a block of an initialiser", member);
            }
            if (member instanceof VariableTree field) {
                boolean shared = field.getModifiers().getFlags().contains(Modifier.STATIC);
                fields += shared ? 0 : 1;
                if (shared) {
                    checkStaticField(field);
                }
            }
        }
        if (fields > MOST_FIELDS) {
            tell(11, owner + " has " + fields + " fields", tree);
        }
        return super.visitClass(tree, unused);
    }

    private void checkStaticField(VariableTree field) {
        if (!field.getModifiers().getFlags().contains(Modifier.FINAL)) {
            tell(5, field.getName() + " is not final", field);
        }
        String type = element(field).asType().toString();
        if (!STATIC_TYPES.contains(type)) {
            tell(5, field.getName() + " is of the type " + type, field);
        }
        boolean writtenOut = field.getInitializer() instanceof NewArrayTree row && row.getInitializers() != null;
        if (type.endsWith("]") && !writtenOut) {
            tell(5, field.getName() + " is not written out", field);
        }
        if (type.endsWith("]") && !field.getModifiers().getFlags().contains(Modifier.PRIVATE)) {
            tell(5, field.getName() + " could be changed from elsewhere", field);
        }
    }

    @Override
    public Void visitMethod(MethodTree tree, Void unused) {
        ExecutableElement method = (ExecutableElement) trees.getElement(getCurrentPath());
        calls.computeIfAbsent(method, k -> new LinkedHashSet<>());
        TypeMirror answer = method.getReturnType();
        if (answer.getKind() != TypeKind.VOID && !isAllowed(answer)) {
            tell(3, method + " answers the type " + answer, tree);
        }
        if (tree.getParameters().size() > MOST_PARAMETERS) {
            tell(11, method + " takes too many parameters", tree);
        }
        if (lastLine(tree) - line(tree) + 1 > LONGEST_METHOD && line(tree) > 0) {
            tell(11, method + " is long", tree);
        }
        return super.visitMethod(tree, unused);
    }

    @Override
    public Void visitVariable(VariableTree tree, Void unused) {
        Element variable = trees.getElement(getCurrentPath());
        if (!isAllowed(variable.asType())) {
            tell(3, variable + " is of the type " + variable.asType(), tree);
        }
        return super.visitVariable(tree, unused);
    }

    @Override
    public Void visitMethodInvocation(MethodInvocationTree tree, Void unused) {
        noteCall(element(tree), tree);
        return super.visitMethodInvocation(tree, unused);
    }

    @Override
    public Void visitNewClass(NewClassTree tree, Void unused) {
        noteCall(element(tree), tree);
        return super.visitNewClass(tree, unused);
    }

    private void noteCall(Element called, Tree where) {
        TypeElement owner = (TypeElement) called.getEnclosingElement();
        if (!isOwn(called)) {
            String name = called.getKind() == ElementKind.CONSTRUCTOR
                ? called.toString().replaceAll(".*\\.(?=\\w+\\()", "") : called.toString();
            // Some methods of a StringBuilder are declared one class above it.
            String words = owner.getSimpleName().toString().replace("Abstract", "") + "." + name;
            if (!LIBRARY.contains(words)) {
                tell(4, words + " is not in the library", where);
            }
            return;
        }
        for (Element caller : callers()) {
            calls.computeIfAbsent(caller, k -> new LinkedHashSet<>()).add(called);
        }
    }

    /** The method around the present place; for a field, the constructors of its class. */
    private Set<Element> callers() {
        Set<Element> found = new LinkedHashSet<>();
        for (TreePath path = getCurrentPath(); path != null; path = path.getParentPath()) {
            if (path.getLeaf() instanceof MethodTree) {
                found.add(trees.getElement(path));
                return found;
            }
            if (path.getLeaf() instanceof ClassTree) {
                for (Element member : trees.getElement(path).getEnclosedElements()) {
                    if (member.getKind() == ElementKind.CONSTRUCTOR) {
                        found.add(member);
                    }
                }
                return found;
            }
        }
        return found;
    }

    @Override
    public Void visitTypeCast(TypeCastTree tree, Void unused) {
        if (!type(tree.getType()).getKind().isPrimitive()) {
            tell(6, "a cast: " + tree, tree);
        }
        return super.visitTypeCast(tree, unused);
    }

    @Override
    public Void visitBinary(BinaryTree tree, Void unused) {
        Kind kind = tree.getKind();
        if (kind == Kind.DIVIDE || kind == Kind.REMAINDER) {
            checkDivisor(tree.getRightOperand(), tree);
        }
        if (kind == Kind.PLUS && type(tree).toString().equals("java.lang.String")) {
            tell(10, "texts joined by +: " + tree, tree);
        }
        boolean compares = kind == Kind.EQUAL_TO || kind == Kind.NOT_EQUAL_TO;
        if (compares && (isText(tree.getLeftOperand()) || isText(tree.getRightOperand()))) {
            tell(6, "texts compared: " + tree, tree);
        }
        return super.visitBinary(tree, unused);
    }

    @Override
    public Void visitCompoundAssignment(CompoundAssignmentTree tree, Void unused) {
        Kind kind = tree.getKind();
        if (kind == Kind.DIVIDE_ASSIGNMENT || kind == Kind.REMAINDER_ASSIGNMENT) {
            checkDivisor(tree.getExpression(), tree);
        }
        if (isText(tree.getVariable())) {
            tell(10, "texts joined by +: " + tree, tree);
        }
        return super.visitCompoundAssignment(tree, unused);
    }

    private boolean isText(ExpressionTree tree) {
        return type(tree).toString().equals("java.lang.String");
    }

    /** The program divides by constants alone, so that no divisor has to be looked at. */
    private void checkDivisor(ExpressionTree divisor, Tree where) {
        Object value = divisor instanceof LiteralTree literal ? literal.getValue() : null;
        if (value == null && element(divisor) instanceof VariableElement variable) {
            value = variable.getConstantValue();
        }
        if (!(value instanceof Integer number) || number == 0) {
            tell(7, "the divisor is no constant: " + where, where);
        }
    }

    @Override
    public Void visitIdentifier(IdentifierTree tree, Void unused) {
        checkRowIsRead(tree);
        return super.visitIdentifier(tree, unused);
    }

    @Override
    public Void visitMemberSelect(MemberSelectTree tree, Void unused) {
        checkRowIsRead(tree);
        return super.visitMemberSelect(tree, unused);
    }

    /** A constant row is read by an index or copied from; by no other way could one see that it stays. */
    private void checkRowIsRead(ExpressionTree name) {
        Element row = trees.getElement(getCurrentPath());
        boolean constant = row != null && row.getKind() == ElementKind.FIELD
            && row.getModifiers().contains(Modifier.STATIC) && row.asType() instanceof ArrayType;
        if (!constant) {
            return;
        }
        TreePath around = getCurrentPath().getParentPath();
        Tree use = around.getLeaf();
        boolean element = use instanceof ArrayAccessTree && !isTarget(use, around.getParentPath().getLeaf());
        boolean copied = use instanceof MethodInvocationTree call && call.getArguments().get(0) == name
            && call.getMethodSelect().toString().equals("System.arraycopy");
        if (!element && !copied) {
            tell(5, "a constant row might be changed: " + use, name);
        }
    }

    private static boolean isTarget(Tree tree, Tree around) {
        boolean assigned = around instanceof AssignmentTree assignment && assignment.getVariable() == tree;
        boolean joined = around instanceof CompoundAssignmentTree compound && compound.getVariable() == tree;
        return assigned || joined || STEPS.contains(around.getKind());
    }

    /** Every loop of the program counts, so that its end can be seen. */
    @Override
    public Void visitForLoop(ForLoopTree tree, Void unused) {
        boolean counts = tree.getCondition() != null && !tree.getUpdate().isEmpty() && !tree.getInitializer().isEmpty();
        if (!counts) {
            tell(9, "a loop that does not count", tree);
        }
        return super.visitForLoop(tree, unused);
    }

    @Override
    public Void visitWhileLoop(WhileLoopTree tree, Void unused) {
        tell(9, "a loop without a counter", tree);
        return super.visitWhileLoop(tree, unused);
    }

    @Override
    public Void visitDoWhileLoop(DoWhileLoopTree tree, Void unused) {
        tell(9, "a loop without a counter", tree);
        return super.visitDoWhileLoop(tree, unused);
    }

    /** How many calls stand open at once when this method has been called. */
    private int depth(Element method, Set<Element> open) {
        if (!open.add(method)) {
            wrong++;
            System.out.println("rule 8: " + method + " calls itself");
            return 0;
        }
        int deepest = 0;
        for (Element called : calls.getOrDefault(method, Set.of())) {
            deepest = Math.max(deepest, depth(called, open));
        }
        open.remove(method);
        return deepest + 1;
    }

    private int deepestCall() {
        int deepest = 0;
        for (Element method : calls.keySet()) {
            int depth = method instanceof ExecutableElement ? depth(method, new LinkedHashSet<>()) : 0;
            if (depth > DEEPEST_CALL) {
                wrong++;
                System.out.println("rule 11: calls go " + depth + " deep from " + method);
            }
            deepest = Math.max(deepest, depth);
        }
        return deepest;
    }

    private void finish() {
        int deepest = deepestCall();
        if (classes > MOST_CLASSES) {
            wrong++;
            System.out.println("rule 11: " + classes + " classes");
        }
        System.out.println(calls.size() + " methods, calls at most " + deepest + " deep, " + wrong
            + " faults against the rules");
        if (wrong != 0 || calls.isEmpty()) {
            System.exit(1);
        }
    }

    public static void main(String[] args) throws IOException {
        JavaCompiler compiler = ToolProvider.getSystemJavaCompiler();
        Path program = args.length > 0 ? Path.of(args[0]) : PROGRAM;
        try (StandardJavaFileManager files = compiler.getStandardFileManager(null, null, null)) {
            JavacTask task = (JavacTask) compiler.getTask(
                null, files, null, null, null, files.getJavaFileObjects(program));
            CompilationUnitTree unit = task.parse().iterator().next();
            task.analyze();
            RulesTest test = new RulesTest(Trees.instance(task), unit);
            test.scan(unit, null);
            test.finish();
        }
    }
}
