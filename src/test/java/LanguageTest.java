import com.sun.source.tree.ArrayAccessTree;
import com.sun.source.tree.AssertTree;
import com.sun.source.tree.AssignmentTree;
import com.sun.source.tree.BinaryTree;
import com.sun.source.tree.BlockTree;
import com.sun.source.tree.CaseTree;
import com.sun.source.tree.CatchTree;
import com.sun.source.tree.ClassTree;
import com.sun.source.tree.CompilationUnitTree;
import com.sun.source.tree.CompoundAssignmentTree;
import com.sun.source.tree.DoWhileLoopTree;
import com.sun.source.tree.ExpressionTree;
import com.sun.source.tree.ForLoopTree;
import com.sun.source.tree.LambdaExpressionTree;
import com.sun.source.tree.LiteralTree;
import com.sun.source.tree.MemberReferenceTree;
import com.sun.source.tree.MethodInvocationTree;
import com.sun.source.tree.MethodTree;
import com.sun.source.tree.NewClassTree;
import com.sun.source.tree.SynchronizedTree;
import com.sun.source.tree.ThrowTree;
import com.sun.source.tree.Tree;
import com.sun.source.tree.TryTree;
import com.sun.source.tree.VariableTree;
import com.sun.source.tree.WhileLoopTree;
import com.sun.source.util.TreePath;
import com.sun.source.util.TreePathScanner;
import java.io.IOException;
import java.util.List;
import java.util.Set;
import javax.lang.model.element.Element;
import javax.lang.model.element.ElementKind;
import javax.lang.model.element.ExecutableElement;
import javax.lang.model.element.Modifier;
import javax.lang.model.type.ArrayType;
import javax.lang.model.type.DeclaredType;
import javax.lang.model.type.TypeKind;
import javax.lang.model.type.TypeMirror;

/**
 * The rules of ../shared/LANGUAGE.md, by the program's syntax tree. What a rule leaves free is free here, too, but for
 * recursion: the program has none.
 */
final class LanguageTest extends TreePathScanner<Void, Void> {
    private static final Set<String> EXCEPTIONS = Set.of("java.lang.IllegalStateException",
            "java.lang.IllegalArgumentException", "java.lang.IndexOutOfBoundsException",
            "java.lang.ArithmeticException", "java.lang.UnsupportedOperationException",
            "java.util.NoSuchElementException", "java.lang.RuntimeException");
    private static final Set<String> IMPORTS = Set.of("java.util.Arrays", "java.util.ArrayList", "java.util.List",
            "java.util.Iterator", "java.util.NoSuchElementException");
    /** The calls of objects and classes of the library; those of Integer, Long and Math are seen to in isNumbers. */
    private static final Set<String> CALLS = Set.of("String.length", "String.charAt", "String.isEmpty",
            "String.equals", "String.indexOf", "String.substring", "String.toCharArray", "StringBuilder.append",
            "StringBuilder.charAt", "StringBuilder.setCharAt", "StringBuilder.setLength",
            "StringBuilder.deleteCharAt", "StringBuilder.reverse", "StringBuilder.length", "StringBuilder.toString",
            "ArrayList.add", "ArrayList.get", "ArrayList.set", "ArrayList.remove", "ArrayList.size",
            "ArrayList.isEmpty", "ArrayList.clear", "List.add", "List.get", "List.set", "List.remove", "List.size",
            "List.isEmpty", "List.clear", "List.of", "System.arraycopy", "Arrays.copyOf", "Arrays.copyOfRange",
            "Arrays.fill", "Object.clone", "Array.clone", "Object.<init>");
    private static final Set<String> LIBRARY_TYPES = Set.of("java.lang.String", "java.lang.StringBuilder",
            "java.lang.Integer", "java.util.ArrayList", "java.util.List", "java.util.Iterator");
    private static final Set<TypeKind> IN_STATIC_ARRAYS = Set.of(TypeKind.INT, TypeKind.LONG, TypeKind.CHAR,
            TypeKind.BYTE);
    private static final int MOST_PARAMETERS = 7;
    private static final int MOST_LINES = 65;
    private static final int MOST_CALLS_DEEP = 8;
    private static final int MOST_CLASSES = 13;
    private static final int MOST_FIELDS = 21;

    private final Program program;
    private int classes = 0;

    private LanguageTest(Program program) {
        this.program = program;
    }

    static void run() throws IOException {
        Check.begin("the language");
        Program program = Program.read();
        LanguageTest test = new LanguageTest(program);
        test.scan(program.unit, null);
        rule(1, "one public class", program.unit.getTypeDecls().size(), 1);
        atMost(11, "classes", test.classes, MOST_CLASSES);
        Calls calls = new Calls(program);
        atMost(11, "calls, one in the other: " + calls.deepest(), calls.deepest().size(), MOST_CALLS_DEEP);
        rule(8, "methods that call themselves", calls.circle(), "");
    }

    private static void rule(int number, String what, Object got, Object due) {
        Check.same("rule " + number + ": " + what, got, due);
    }

    private void keeps(int number, String what, boolean isKept) {
        rule(number, what + " in line " + program.lineOf(getCurrentPath().getLeaf()), isKept, true);
    }

    private static void atMost(int number, String what, int got, int most) {
        rule(number, what + " (" + got + ") are " + most + " at most", got <= most, true);
    }

    // ---- Classes and their members

    @Override
    public Void visitCompilationUnit(CompilationUnitTree unit, Void none) {
        keeps(1, "no package", unit.getPackageName() == null);
        unit.getImports().forEach(line -> keeps(4, "import " + line.getQualifiedIdentifier(),
                !line.isStatic() && IMPORTS.contains(line.getQualifiedIdentifier().toString())));
        return super.visitCompilationUnit(unit, none);
    }

    @Override
    public Void visitClass(ClassTree tree, Void none) {
        classes++;
        Element type = program.elementOf(getCurrentPath());
        keeps(2, "no class of a kind that is ruled out", type.getKind() != ElementKind.ANNOTATION_TYPE);
        int fields = 0;
        for (Tree member : tree.getMembers()) {
            keeps(5, "no initialiser block", !(member instanceof BlockTree));
            boolean isField = member instanceof VariableTree
                    && !((VariableTree) member).getModifiers().getFlags().contains(Modifier.STATIC);
            fields += isField ? 1 : 0;
        }
        atMost(11, "fields of " + tree.getSimpleName(), fields, MOST_FIELDS);
        return super.visitClass(tree, none);
    }

    @Override
    public Void visitMethod(MethodTree tree, Void none) {
        atMost(11, "parameters of " + tree.getName(), tree.getParameters().size(), MOST_PARAMETERS);
        atMost(11, "lines of " + tree.getName(), program.linesOf(tree), MOST_LINES);
        Set<String> ofObjects = Set.of("equals", "hashCode", "toString");
        keeps(6, "no equals, hashCode or toString", !ofObjects.contains(tree.getName().toString()));
        keeps(6, "not synchronized", !tree.getModifiers().getFlags().contains(Modifier.SYNCHRONIZED));
        if (tree.getReturnType() != null) {
            keepsType(program.typeOf(new TreePath(getCurrentPath(), tree.getReturnType())));
        }
        return super.visitMethod(tree, none);
    }

    @Override
    public Void visitVariable(VariableTree tree, Void none) {
        Element variable = program.elementOf(getCurrentPath());
        keepsType(variable.asType());
        boolean isStatic = variable.getKind() == ElementKind.FIELD && variable.getModifiers().contains(Modifier.STATIC);
        if (isStatic) {
            keeps(5, "a static field is final", variable.getModifiers().contains(Modifier.FINAL));
            boolean isConstant = isConstantType(variable.asType()) && tree.getInitializer() != null;
            keeps(5, "a static field is a constant", isConstant);
        }
        return super.visitVariable(tree, none);
    }

    private boolean isConstantType(TypeMirror type) {
        if (type instanceof ArrayType) {
            TypeMirror of = ((ArrayType) type).getComponentType();
            return IN_STATIC_ARRAYS.contains(of.getKind()) || program.isEnum(of);
        }
        Set<TypeKind> kinds = Set.of(TypeKind.INT, TypeKind.LONG, TypeKind.BOOLEAN, TypeKind.CHAR);
        return kinds.contains(type.getKind()) || type.toString().equals("java.lang.String");
    }

    // ---- Types and texts

    private void keepsType(TypeMirror type) {
        keeps(3, "type " + type, isAllowed(type, 2));
    }

    private boolean isAllowed(TypeMirror type, int dimensions) {
        if (type instanceof ArrayType) {
            TypeMirror of = ((ArrayType) type).getComponentType();
            boolean isOfArrays = of instanceof ArrayType;
            boolean isRight = !isOfArrays || ((ArrayType) of).getComponentType().getKind().isPrimitive();
            return dimensions > 0 && isRight && isAllowed(of, dimensions - 1);
        }
        if (type instanceof DeclaredType) {
            String name = program.nameOf(type);
            boolean isKnown = program.isOwn(type) || LIBRARY_TYPES.contains(name) || EXCEPTIONS.contains(name);
            return isKnown && ((DeclaredType) type).getTypeArguments().stream().allMatch(part -> isAllowed(part, 0));
        }
        return true;
    }

    @Override
    public Void visitLiteral(LiteralTree tree, Void none) {
        if (tree.getValue() instanceof String || tree.getValue() instanceof Character) {
            keeps(4, "the signs of a text are 1 to 127",
                    tree.getValue().toString().chars().allMatch(sign -> sign >= 1 && sign <= 127));
        }
        return super.visitLiteral(tree, none);
    }

    @Override
    public Void visitBinary(BinaryTree tree, Void none) {
        TypeMirror left = program.typeOf(new TreePath(getCurrentPath(), tree.getLeftOperand()));
        TypeMirror right = program.typeOf(new TreePath(getCurrentPath(), tree.getRightOperand()));
        boolean isOfText = isText(left) || isText(right);
        keeps(10, "texts are not joined by +", tree.getKind() != Tree.Kind.PLUS || !isOfText);
        boolean isEquality = tree.getKind() == Tree.Kind.EQUAL_TO || tree.getKind() == Tree.Kind.NOT_EQUAL_TO;
        keeps(6, "texts are not compared by ==", !isEquality || !isText(left) || !isText(right));
        keeps(3, "no % of doubles and floats", tree.getKind() != Tree.Kind.REMAINDER
                || !isFraction(left) && !isFraction(right));
        return super.visitBinary(tree, none);
    }

    @Override
    public Void visitCompoundAssignment(CompoundAssignmentTree tree, Void none) {
        keeps(10, "texts are not joined by +=",
                !isText(program.typeOf(new TreePath(getCurrentPath(), tree.getVariable()))));
        keepsStaticArrays(tree.getVariable());
        return super.visitCompoundAssignment(tree, none);
    }

    @Override
    public Void visitAssignment(AssignmentTree tree, Void none) {
        keepsStaticArrays(tree.getVariable());
        return super.visitAssignment(tree, none);
    }

    private void keepsStaticArrays(ExpressionTree target) {
        if (target instanceof ArrayAccessTree) {
            TreePath path = new TreePath(getCurrentPath(), target);
            Element array = program.elementOf(new TreePath(path, ((ArrayAccessTree) target).getExpression()));
            keeps(5, "an array of constants is not changed",
                    array == null || !array.getModifiers().contains(Modifier.STATIC));
        }
    }

    private static boolean isText(TypeMirror type) {
        return type != null && type.toString().equals("java.lang.String");
    }

    private static boolean isFraction(TypeMirror type) {
        return type != null && (type.getKind() == TypeKind.DOUBLE || type.getKind() == TypeKind.FLOAT);
    }

    // ---- Calls and exceptions

    @Override
    public Void visitMethodInvocation(MethodInvocationTree tree, Void none) {
        ExecutableElement called = (ExecutableElement) program.elementOf(getCurrentPath());
        keeps(4, "call of " + called.getEnclosingElement() + "." + called,
                program.isOwn(called.getEnclosingElement().asType()) || isNumbers(called)
                        || CALLS.contains(called.getEnclosingElement().getSimpleName() + "." + called.getSimpleName()));
        return super.visitMethodInvocation(tree, none);
    }

    /** A static function of Integer, Long or Math over int and long. */
    private static boolean isNumbers(ExecutableElement called) {
        String owner = called.getEnclosingElement().toString();
        boolean isThere = Set.of("java.lang.Integer", "java.lang.Long", "java.lang.Math").contains(owner);
        return isThere && called.getModifiers().contains(Modifier.STATIC)
                && !called.getSimpleName().toString().endsWith("Exact")
                && called.getParameters().stream().allMatch(one -> one.asType().getKind() == TypeKind.INT
                        || one.asType().getKind() == TypeKind.LONG);
    }

    @Override
    public Void visitNewClass(NewClassTree tree, Void none) {
        TypeMirror type = program.typeOf(getCurrentPath());
        String name = program.nameOf(type);
        keeps(4, "new " + name, program.isOwn(type) || EXCEPTIONS.contains(name)
                || Set.of("java.lang.StringBuilder", "java.lang.String", "java.util.ArrayList").contains(name));
        return super.visitNewClass(tree, none);
    }

    @Override
    public Void visitThrow(ThrowTree tree, Void none) {
        boolean isNew = tree.getExpression() instanceof NewClassTree;
        keeps(6, "throw new", isNew);
        if (isNew) {
            NewClassTree thrown = (NewClassTree) tree.getExpression();
            TypeMirror type = program.typeOf(new TreePath(getCurrentPath(), thrown));
            List<? extends ExpressionTree> words = thrown.getArguments();
            keeps(6, "one of the exceptions", EXCEPTIONS.contains(program.nameOf(type)));
            boolean isWritten = words.size() == 1 && words.get(0) instanceof LiteralTree;
            keeps(6, "a written text or none", words.isEmpty() || isWritten);
        }
        for (TreePath path = getCurrentPath(); path != null; path = path.getParentPath()) {
            Tree around = path.getLeaf();
            boolean isConstructor = around instanceof MethodTree && ((MethodTree) around).getReturnType() == null;
            keeps(6, "no throw in a constructor", !isConstructor);
            keeps(6, "no throw inside a try", !(around instanceof TryTree));
        }
        return super.visitThrow(tree, none);
    }

    @Override
    public Void visitTry(TryTree tree, Void none) {
        keeps(6, "no finally and no resources", tree.getFinallyBlock() == null && tree.getResources().isEmpty());
        return super.visitTry(tree, none);
    }

    @Override
    public Void visitCatch(CatchTree tree, Void none) {
        String name = tree.getParameter().getName().toString();
        boolean isUsed = tree.getBlock().toString().matches("(?s).*\\b" + name + "\\b.*");
        keeps(6, "a catch leaves the exception alone", !isUsed);
        return super.visitCatch(tree, none);
    }

    // ---- Statements

    @Override
    public Void visitLambdaExpression(LambdaExpressionTree tree, Void none) {
        keeps(2, "no lambda", false);
        return super.visitLambdaExpression(tree, none);
    }

    @Override
    public Void visitMemberReference(MemberReferenceTree tree, Void none) {
        keeps(2, "no method reference", false);
        return super.visitMemberReference(tree, none);
    }

    @Override
    public Void visitSynchronized(SynchronizedTree tree, Void none) {
        keeps(6, "no synchronized", false);
        return super.visitSynchronized(tree, none);
    }

    @Override
    public Void visitAssert(AssertTree tree, Void none) {
        keeps(6, "no assert", false);
        return super.visitAssert(tree, none);
    }

    @Override
    public Void visitCase(CaseTree tree, Void none) {
        tree.getExpressions().forEach(label -> keeps(10, "switch on numbers and enums",
                !isText(program.typeOf(new TreePath(getCurrentPath(), label)))));
        return super.visitCase(tree, none);
    }

    @Override
    public Void visitForLoop(ForLoopTree tree, Void none) {
        keeps(9, "a loop with an end", Loops.ends(tree.getCondition(), tree));
        return super.visitForLoop(tree, none);
    }

    @Override
    public Void visitWhileLoop(WhileLoopTree tree, Void none) {
        keeps(9, "a loop with an end", Loops.ends(tree.getCondition(), tree));
        return super.visitWhileLoop(tree, none);
    }

    @Override
    public Void visitDoWhileLoop(DoWhileLoopTree tree, Void none) {
        keeps(9, "a loop with an end", Loops.ends(tree.getCondition(), tree));
        return super.visitDoWhileLoop(tree, none);
    }
}
