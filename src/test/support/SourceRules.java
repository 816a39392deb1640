import com.sun.source.tree.ArrayTypeTree;
import com.sun.source.tree.AssertTree;
import com.sun.source.tree.BinaryTree;
import com.sun.source.tree.BlockTree;
import com.sun.source.tree.ClassTree;
import com.sun.source.tree.CompilationUnitTree;
import com.sun.source.tree.CompoundAssignmentTree;
import com.sun.source.tree.DoWhileLoopTree;
import com.sun.source.tree.ExpressionTree;
import com.sun.source.tree.ForLoopTree;
import com.sun.source.tree.IdentifierTree;
import com.sun.source.tree.ImportTree;
import com.sun.source.tree.LambdaExpressionTree;
import com.sun.source.tree.LiteralTree;
import com.sun.source.tree.MemberReferenceTree;
import com.sun.source.tree.MemberSelectTree;
import com.sun.source.tree.MethodInvocationTree;
import com.sun.source.tree.MethodTree;
import com.sun.source.tree.NewArrayTree;
import com.sun.source.tree.NewClassTree;
import com.sun.source.tree.PrimitiveTypeTree;
import com.sun.source.tree.SynchronizedTree;
import com.sun.source.tree.ThrowTree;
import com.sun.source.tree.Tree;
import com.sun.source.tree.TryTree;
import com.sun.source.tree.VariableTree;
import com.sun.source.tree.WhileLoopTree;
import com.sun.source.util.JavacTask;
import com.sun.source.util.SourcePositions;
import com.sun.source.util.TreePathScanner;
import com.sun.source.util.TreeScanner;
import com.sun.source.util.Trees;
import java.io.IOException;
import java.net.URI;
import java.util.ArrayList;
import java.util.HashMap;
import java.util.HashSet;
import java.util.List;
import java.util.Map;
import java.util.Set;
import javax.lang.model.element.Modifier;
import javax.lang.model.type.TypeKind;
import javax.tools.JavaFileObject;
import javax.tools.SimpleJavaFileObject;
import javax.tools.ToolProvider;

/**
 * Those rules of LANGUAGE.md that a source shows without being compiled. Where a rule allows more
 * than the class needs, this allows less: no try, no loop but for, no local class, no divisor but a
 * number, no recursion, no doubles, nothing made by a call but what it throws. What needs more must
 * be held against the rule, and added here.
 */
final class SourceRules extends TreePathScanner<Void, Void> {
    private static final Set<String> IMPORTS = Set.of("java.util.Arrays", "java.util.ArrayList",
            "java.util.List");
    private static final Set<String> EXCEPTIONS = Set.of("IllegalStateException",
            "IllegalArgumentException", "IndexOutOfBoundsException", "ArithmeticException",
            "UnsupportedOperationException", "NoSuchElementException", "RuntimeException");
    private static final Set<String> LIBRARY_TYPES = Set.of("String", "StringBuilder", "Integer",
            "Long", "Math", "Arrays", "System", "ArrayList", "List", "this", "super");
    private static final Map<String, Set<String>> STATIC_CALLS = Map.of(
            "Math", Set.of("abs", "max", "min", "floorDiv", "floorMod"),
            "Integer", Set.of("compare", "bitCount", "max", "min"),
            "Long", Set.of("compare", "bitCount", "max", "min"),
            "Arrays", Set.of("copyOf", "copyOfRange", "fill"),
            "System", Set.of("arraycopy"));
    private static final Set<String> OBJECT_CALLS = Set.of("length", "charAt", "isEmpty", "equals",
            "indexOf", "substring", "toCharArray", "append", "setCharAt", "setLength",
            "deleteCharAt", "reverse", "toString", "add", "get", "set", "remove", "size", "clear",
            "clone");
    private static final Set<String> COPYING = Set.of("clone", "copyOf", "copyOfRange", "substring",
            "toCharArray", "toString");
    private static final Set<TypeKind> CONSTANTS = Set.of(TypeKind.INT, TypeKind.LONG,
            TypeKind.BOOLEAN, TypeKind.CHAR);
    private static final int MOST_PARAMETERS = 7;
    private static final int MOST_LINES = 60;
    private static final int MOST_DEEP = 8;
    private static final int MOST_CLASSES = 12;
    private static final int MOST_FIELDS = 20;

    private final CompilationUnitTree unit;
    private final SourcePositions positions;
    private final List<String> faults = new ArrayList<>();
    private final Set<String> classes = new HashSet<>();
    private final Set<String> methods = new HashSet<>();
    private final Set<String> publicMethods = new HashSet<>();
    private final Set<String> variables = new HashSet<>();
    private final Map<String, Set<String>> calls = new HashMap<>();
    private final Set<String> makers = new HashSet<>();

    private SourceRules(CompilationUnitTree unit, SourcePositions positions) {
        this.unit = unit;
        this.positions = positions;
    }

    static List<String> faultsOf(String source) {
        JavaFileObject file = new SimpleJavaFileObject(URI.create("string:///BlindShelf.java"),
                JavaFileObject.Kind.SOURCE) {
            @Override
            public CharSequence getCharContent(boolean ignoreErrors) {
                return source;
            }
        };
        JavacTask task = (JavacTask) ToolProvider.getSystemJavaCompiler()
                .getTask(null, null, null, null, null, List.of(file));
        try {
            CompilationUnitTree unit = task.parse().iterator().next();
            SourceRules rules = new SourceRules(unit, Trees.instance(task).getSourcePositions());
            rules.collectNames();
            rules.scan(unit, null);
            rules.lookAtDepth();
            rules.lookAtRoom();
            return rules.faults;
        } catch (IOException e) {
            throw new AssertionError(e);
        }
    }

    private void fault(int rule, Tree where, String what) {
        faults.add("rule " + rule + ", line " + line(positions.getStartPosition(unit, where)) + ": " + what);
    }

    private void faultIf(boolean wrong, int rule, Tree where, String what) {
        if (wrong) {
            fault(rule, where, what);
        }
    }

    private long line(long position) {
        return unit.getLineMap().getLineNumber(position);
    }

    private void collectNames() {
        new TreeScanner<Void, Void>() {
            @Override
            public Void visitClass(ClassTree tree, Void none) {
                classes.add(tree.getSimpleName().toString());
                return super.visitClass(tree, none);
            }

            @Override
            public Void visitMethod(MethodTree tree, Void none) {
                methods.add(tree.getName().toString());
                if (tree.getModifiers().getFlags().contains(Modifier.PUBLIC)) {
                    publicMethods.add(tree.getName().toString());
                }
                return super.visitMethod(tree, none);
            }

            @Override
            public Void visitVariable(VariableTree tree, Void none) {
                variables.add(tree.getName().toString());
                return super.visitVariable(tree, none);
            }
        }.scan(unit, null);
    }

    @Override
    public Void visitCompilationUnit(CompilationUnitTree tree, Void none) {
        faultIf(tree.getPackageName() != null, 1, tree, "a package line");
        faultIf(tree.getTypeDecls().size() != 1, 1, tree, "not one class");
        faultIf(classes.size() > MOST_CLASSES, 11, tree, "too many classes");
        return super.visitCompilationUnit(tree, none);
    }

    @Override
    public Void visitImport(ImportTree tree, Void none) {
        boolean known = IMPORTS.contains(tree.getQualifiedIdentifier().toString());
        faultIf(tree.isStatic() || !known, 4, tree, "import");
        return null;
    }

    @Override
    public Void visitClass(ClassTree tree, Void none) {
        Set<Modifier> flags = tree.getModifiers().getFlags();
        if (getCurrentPath().getParentPath().getLeaf() == unit) {
            faultIf(!flags.equals(Set.of(Modifier.PUBLIC, Modifier.FINAL)), 1, tree, "not public and final");
        } else {
            boolean visible = flags.contains(Modifier.PUBLIC) || flags.contains(Modifier.PROTECTED);
            faultIf(visible, 1, tree, "a class inside is visible");
            faultIf(!flags.contains(Modifier.STATIC), 2, tree, "a class inside is not static");
        }
        int fields = 0;
        for (Tree member : tree.getMembers()) {
            faultIf(member instanceof BlockTree, 5, member, "an initialiser block");
            if (member instanceof VariableTree && !lookAtStatic((VariableTree) member)) {
                fields++;
            }
        }
        faultIf(fields > MOST_FIELDS, 11, tree, "too many fields");
        return super.visitClass(tree, none);
    }

    private boolean lookAtStatic(VariableTree field) {
        Set<Modifier> flags = field.getModifiers().getFlags();
        if (!flags.contains(Modifier.STATIC)) {
            return false;
        }
        faultIf(!flags.contains(Modifier.FINAL), 5, field, "a static field is not final");
        faultIf(!isConstant(field), 5, field, "a static field is no constant");
        return true;
    }

    private static boolean isConstant(VariableTree field) {
        Tree type = field.getType();
        if (type instanceof ArrayTypeTree) {
            return field.getInitializer() instanceof NewArrayTree
                    && ((NewArrayTree) field.getInitializer()).getInitializers() != null;
        }
        return type.toString().equals("String") || type instanceof PrimitiveTypeTree
                && CONSTANTS.contains(((PrimitiveTypeTree) type).getPrimitiveTypeKind());
    }

    @Override
    public Void visitMethod(MethodTree tree, Void none) {
        String name = tree.getName().toString();
        boolean isPrivate = tree.getModifiers().getFlags().contains(Modifier.PRIVATE);
        faultIf(isPrivate && publicMethods.contains(name), 1, tree, "a private method with a public one's name");
        faultIf(tree.getParameters().size() > MOST_PARAMETERS, 11, tree, "too many parameters");
        long lines = line(positions.getEndPosition(unit, tree)) - line(positions.getStartPosition(unit, tree)) + 1;
        faultIf(lines > MOST_LINES, 11, tree, "a long method");
        faultIf(Set.of("equals", "hashCode", "toString").contains(name), 6, tree, name);
        calls.computeIfAbsent(ownName(), any -> new HashSet<>());
        return super.visitMethod(tree, none);
    }

    /** A constructor by its class; what stands at a field is the constructor's. */
    private String ownName() {
        String inClass = "";
        for (Tree tree : getCurrentPath()) {
            if (tree instanceof MethodTree && !((MethodTree) tree).getName().contentEquals("<init>")) {
                return ((MethodTree) tree).getName().toString();
            }
            if (tree instanceof ClassTree && inClass.isEmpty()) {
                inClass = "new " + ((ClassTree) tree).getSimpleName();
            }
        }
        return inClass;
    }

    private void calls(String name) {
        calls.computeIfAbsent(ownName(), any -> new HashSet<>()).add(name);
    }

    /** Methods of one name are taken for one: what is found is never less deep than what is so. */
    private void lookAtDepth() {
        for (String name : List.copyOf(calls.keySet())) {
            if (depth(name, 1) > MOST_DEEP) {
                faults.add("rule 11: " + name + " calls too deep, or itself");
            }
        }
    }

    private int depth(String name, int open) {
        int deepest = open;
        for (String called : calls.getOrDefault(name, Set.of())) {
            if (deepest <= MOST_DEEP) {
                deepest = Math.max(deepest, depth(called, open + 1));
            }
        }
        return deepest;
    }

    /** All calls of a run live in one room, so rows are made in constructors alone. */
    private void lookAtRoom() {
        for (String name : publicMethods) {
            Set<String> reached = new HashSet<>();
            reach(name, reached);
            reached.retainAll(makers);
            if (!reached.isEmpty()) {
                faults.add("rule 12: " + name + " makes objects by " + reached);
            }
        }
    }

    private void reach(String name, Set<String> reached) {
        if (reached.add(name)) {
            calls.getOrDefault(name, Set.of()).forEach(called -> reach(called, reached));
        }
    }

    @Override
    public Void visitNewArray(NewArrayTree tree, Void none) {
        makers.add(ownName());
        return super.visitNewArray(tree, none);
    }

    @Override
    public Void visitVariable(VariableTree tree, Void none) {
        String type = String.valueOf(tree.getType());
        faultIf(type.contains("[][][]"), 3, tree, "an array of three dimensions");
        faultIf(type.contains("[][]") && Character.isUpperCase(type.charAt(0)), 3, tree, "rows of objects");
        return super.visitVariable(tree, none);
    }

    @Override
    public Void visitPrimitiveType(PrimitiveTypeTree tree, Void none) {
        TypeKind kind = tree.getPrimitiveTypeKind();
        faultIf(kind == TypeKind.DOUBLE || kind == TypeKind.FLOAT, 3, tree, "doubles");
        return null;
    }

    /** No name but the file's own and the library's that are allowed, a package's neither. */
    @Override
    public Void visitIdentifier(IdentifierTree tree, Void none) {
        String name = tree.getName().toString();
        boolean own = classes.contains(name) || methods.contains(name) || variables.contains(name);
        boolean known = LIBRARY_TYPES.contains(name) || EXCEPTIONS.contains(name) || name.equals("Override");
        faultIf(!own && !known, 4, tree, name);
        return null;
    }

    @Override
    public Void visitMethodInvocation(MethodInvocationTree tree, Void none) {
        ExpressionTree called = tree.getMethodSelect();
        if (called instanceof MemberSelectTree) {
            lookAtSelected((MemberSelectTree) called);
        } else {
            calls(called.toString());
        }
        return super.visitMethodInvocation(tree, none);
    }

    private void lookAtSelected(MemberSelectTree called) {
        String name = called.getIdentifier().toString();
        String of = called.getExpression().toString();
        if (COPYING.contains(name)) {
            makers.add(ownName());
        }
        if (STATIC_CALLS.containsKey(of)) {
            faultIf(!STATIC_CALLS.get(of).contains(name), 4, called, of + "." + name);
        } else if (methods.contains(name)) {
            calls(name);
        } else {
            faultIf(!OBJECT_CALLS.contains(name), 4, called, name);
        }
    }

    @Override
    public Void visitNewClass(NewClassTree tree, Void none) {
        String name = tree.getIdentifier().toString();
        boolean thrown = getCurrentPath().getParentPath().getLeaf() instanceof ThrowTree;
        faultIf(EXCEPTIONS.contains(name) && !thrown, 6, tree, "an exception that is not thrown");
        faultIf(tree.getClassBody() != null, 2, tree, "a class without a name");
        if (!thrown) {
            makers.add(ownName());
        }
        calls("new " + name);
        return super.visitNewClass(tree, none);
    }

    @Override
    public Void visitThrow(ThrowTree tree, Void none) {
        faultIf(!isWrittenOut(tree.getExpression()), 6, tree, "not throw new E(text)");
        faultIf(ownName().startsWith("new "), 6, tree, "a throw in a constructor");
        return super.visitThrow(tree, none);
    }

    private static boolean isWrittenOut(ExpressionTree thrown) {
        if (!(thrown instanceof NewClassTree)) {
            return false;
        }
        NewClassTree made = (NewClassTree) thrown;
        List<? extends ExpressionTree> texts = made.getArguments();
        return EXCEPTIONS.contains(made.getIdentifier().toString())
                && (texts.isEmpty() || texts.size() == 1 && isText(texts.get(0)));
    }

    private static boolean isText(Tree tree) {
        return tree.getKind() == Tree.Kind.STRING_LITERAL;
    }

    @Override
    public Void visitBinary(BinaryTree tree, Void none) {
        boolean divides = tree.getKind() == Tree.Kind.DIVIDE || tree.getKind() == Tree.Kind.REMAINDER;
        faultIf(divides && !isNumberButZero(tree.getRightOperand()), 7, tree, "a divisor that is no number");
        boolean joins = isText(tree.getLeftOperand()) || isText(tree.getRightOperand());
        faultIf(joins, 10, tree, "texts joined or compared");
        return super.visitBinary(tree, none);
    }

    private static boolean isNumberButZero(ExpressionTree divisor) {
        return divisor instanceof LiteralTree && !divisor.toString().matches("0[lL]?");
    }

    @Override
    public Void visitCompoundAssignment(CompoundAssignmentTree tree, Void none) {
        boolean divides = tree.getKind() == Tree.Kind.DIVIDE_ASSIGNMENT
                || tree.getKind() == Tree.Kind.REMAINDER_ASSIGNMENT;
        faultIf(divides && !isNumberButZero(tree.getExpression()), 7, tree, "a divisor that is no number");
        return super.visitCompoundAssignment(tree, none);
    }

    @Override
    public Void visitForLoop(ForLoopTree tree, Void none) {
        boolean bounded = tree.getCondition() != null && !tree.getUpdate().isEmpty();
        faultIf(!bounded, 9, tree, "a loop without a bound");
        return super.visitForLoop(tree, none);
    }

    @Override
    public Void visitWhileLoop(WhileLoopTree tree, Void none) {
        fault(9, tree, "while");
        return super.visitWhileLoop(tree, none);
    }

    @Override
    public Void visitDoWhileLoop(DoWhileLoopTree tree, Void none) {
        fault(9, tree, "do");
        return super.visitDoWhileLoop(tree, none);
    }

    @Override
    public Void visitTry(TryTree tree, Void none) {
        fault(6, tree, "try");
        return super.visitTry(tree, none);
    }

    @Override
    public Void visitSynchronized(SynchronizedTree tree, Void none) {
        fault(6, tree, "synchronized");
        return super.visitSynchronized(tree, none);
    }

    @Override
    public Void visitAssert(AssertTree tree, Void none) {
        fault(6, tree, "assert");
        return super.visitAssert(tree, none);
    }

    @Override
    public Void visitLambdaExpression(LambdaExpressionTree tree, Void none) {
        fault(2, tree, "a lambda");
        return super.visitLambdaExpression(tree, none);
    }

    @Override
    public Void visitMemberReference(MemberReferenceTree tree, Void none) {
        fault(2, tree, "a method reference");
        return super.visitMemberReference(tree, none);
    }
}
