import com.sun.source.tree.*;
import com.sun.source.util.*;
import java.nio.file.Path;
import java.util.ArrayList;
import java.util.HashMap;
import java.util.HashSet;
import java.util.List;
import java.util.Map;
import java.util.Set;
import javax.lang.model.element.Element;
import javax.lang.model.element.ElementKind;
import javax.lang.model.element.ExecutableElement;
import javax.lang.model.element.Modifier;
import javax.lang.model.element.TypeElement;
import javax.lang.model.type.ArrayType;
import javax.lang.model.type.DeclaredType;
import javax.lang.model.type.TypeKind;
import javax.lang.model.type.TypeMirror;
import javax.tools.JavaCompiler;
import javax.tools.StandardJavaFileManager;
import javax.tools.ToolProvider;

/**
 * The source keeps to the rules of LANGUAGE.md that its text shows; what FaceTest holds (rule 1) is
 * not held again, and rules 7 and 9 are shown here only in part. It is stricter where the program
 * needs less than the rules leave.
 */
public final class LanguageTest extends TreePathScanner<Void, Void> {
    private static final Path SOURCE = Path.of("src/main/java/DeltaUpdater.java");

    /** Kinds of tree that the rules rule out, or allow under conditions not looked at here. */
    private static final Set<Tree.Kind> RULED_OUT = Set.of(Tree.Kind.LAMBDA_EXPRESSION,
            Tree.Kind.MEMBER_REFERENCE, Tree.Kind.SYNCHRONIZED, Tree.Kind.ASSERT, Tree.Kind.TRY,
            Tree.Kind.PACKAGE, Tree.Kind.WHILE_LOOP, Tree.Kind.DO_WHILE_LOOP, Tree.Kind.TYPE_CAST,
            Tree.Kind.INSTANCE_OF, Tree.Kind.SWITCH_EXPRESSION, Tree.Kind.ERRONEOUS);
    private static final Set<String> THROWN = Set.of("IllegalStateException",
            "IllegalArgumentException", "IndexOutOfBoundsException");
    private static final Set<String> LIBRARY = Set.of(
            "java.util.ArrayList.<init>", "java.util.ArrayList.add", "java.util.ArrayList.get",
            "java.util.ArrayList.remove", "java.util.ArrayList.size",
            "java.util.Arrays.copyOf", "java.util.Arrays.fill", "java.lang.Object.<init>",
            "java.lang.IllegalStateException.<init>", "java.lang.IllegalArgumentException.<init>",
            "java.lang.IndexOutOfBoundsException.<init>");

    private final List<String> broken = new ArrayList<>();
    private final Map<Element, Set<Element>> callsOf = new HashMap<>();
    private final Trees trees;
    private final CompilationUnitTree unit;
    private int classes = 0;

    private LanguageTest(Trees trees, CompilationUnitTree unit) {
        this.trees = trees;
        this.unit = unit;
    }

    public static void main(String[] args) throws Exception {
        JavaCompiler compiler = ToolProvider.getSystemJavaCompiler();
        StandardJavaFileManager files = compiler.getStandardFileManager(null, null, null);
        JavacTask task = (JavacTask) compiler.getTask(null, files, null, List.of("--release", "17"),
                null, files.getJavaFileObjects(SOURCE));
        CompilationUnitTree unit = task.parse().iterator().next();
        task.analyze();
        LanguageTest test = new LanguageTest(Trees.instance(task), unit);
        test.scan(unit, null);
        test.wholeFile();
        Checks checks = new Checks();
        checks.due("what breaks the rules", List.of(), () -> test.broken);
        checks.end();
    }

    private void broken(int rule, Tree at, String what) {
        long line = unit.getLineMap().getLineNumber(start(at));
        broken.add("rule " + rule + ", line " + line + ": " + what);
    }

    private long start(Tree tree) {
        return trees.getSourcePositions().getStartPosition(unit, tree);
    }

    private void wholeFile() {
        if (unit.getTypeDecls().size() != 1) {
            broken(2, unit, "not one class");
        }
        if (classes > 12) {
            broken(11, unit, classes + " classes");
        }
        for (Element method : callsOf.keySet()) {
            int depth = depth(method, new HashSet<>());
            if (depth > 8) {
                broken(depth > 1000 ? 8 : 11, unit, method + " goes " + depth + " deep");
            }
        }
    }

    /** How deep the calls of a method go; more than 1000 if it comes back to itself. */
    private int depth(Element method, Set<Element> open) {
        if (!open.add(method)) {
            return 1001;
        }
        int deepest = 0;
        for (Element called : callsOf.getOrDefault(method, Set.of())) {
            deepest = Math.max(deepest, depth(called, open));
        }
        open.remove(method);
        return deepest + 1;
    }

    @Override
    public Void scan(Tree tree, Void none) {
        if (tree != null && RULED_OUT.contains(tree.getKind())
                && !(tree instanceof TypeCastTree cast && isOfNumbers(cast))) {
            broken(6, tree, "a " + tree.getKind());
        }
        return super.scan(tree, none);
    }

    private boolean isOfNumbers(TypeCastTree cast) {
        return cast.getType() instanceof PrimitiveTypeTree;
    }

    // ---- rules 2, 5 and 11: classes and their members

    @Override
    public Void visitClass(ClassTree tree, Void none) {
        classes++;
        Set<Modifier> modifiers = tree.getModifiers().getFlags();
        boolean outer = getCurrentPath().getParentPath().getLeaf() == unit;
        if (!outer && (!modifiers.contains(Modifier.STATIC) || modifiers.contains(Modifier.PUBLIC)
                || modifiers.contains(Modifier.PROTECTED))) {
            broken(2, tree, "a class inside that is not static and private");
        }
        int fields = 0;
        for (Tree member : tree.getMembers()) {
            if (member instanceof VariableTree field) {
                fields += isStatic(field) ? 0 : 1;
                checkStaticField(field);
            }
            if (member instanceof BlockTree) {
                broken(5, member, "an initialiser block");
            }
        }
        if (fields > 20) {
            broken(11, tree, fields + " fields");
        }
        return super.visitClass(tree, none);
    }

    private static boolean isStatic(VariableTree field) {
        return field.getModifiers().getFlags().contains(Modifier.STATIC);
    }

    private void checkStaticField(VariableTree field) {
        boolean constant = field.getModifiers().getFlags().contains(Modifier.FINAL)
                && Set.of("int", "long").contains(field.getType().toString())
                && field.getInitializer() != null;
        if (isStatic(field) && !constant) {
            broken(5, field, "a static field that is no constant of int or long");
        }
    }

    @Override
    public Void visitMethod(MethodTree tree, Void none) {
        String name = tree.getName().toString();
        if (Set.of("equals", "hashCode", "toString").contains(name)) {
            broken(6, tree, "a method " + name);
        }
        if (tree.getParameters().size() > 7) {
            broken(11, tree, name + " takes more than seven parameters");
        }
        LineMap lines = unit.getLineMap();
        long end = trees.getSourcePositions().getEndPosition(unit, tree);
        if (end >= 0 && lines.getLineNumber(end) - lines.getLineNumber(start(tree)) >= 60) {
            broken(11, tree, name + " is longer than sixty lines");
        }
        checkType(tree.getReturnType());
        return super.visitMethod(tree, none);
    }

    // ---- rule 3: types

    @Override
    public Void visitVariable(VariableTree tree, Void none) {
        checkType(tree.getType());
        return super.visitVariable(tree, none);
    }

    private void checkType(Tree tree) {
        if (tree != null && !isAllowed(trees.getTypeMirror(new TreePath(getCurrentPath(), tree)))) {
            broken(3, tree, "the type " + tree);
        }
    }

    private boolean isAllowed(TypeMirror type) {
        if (type instanceof ArrayType array) {
            return array.getComponentType().getKind() == TypeKind.INT;
        }
        if (type instanceof DeclaredType declared) {
            boolean list = declared.asElement().toString().equals("java.util.ArrayList");
            return isOwn(declared.asElement()) || list && declared.getTypeArguments().size() == 1
                    && isAllowed(declared.getTypeArguments().get(0));
        }
        return Set.of(TypeKind.INT, TypeKind.LONG, TypeKind.BOOLEAN, TypeKind.DOUBLE, TypeKind.VOID)
                .contains(type.getKind());
    }

    private static boolean isOwn(Element element) {
        Element outermost = element;
        while (outermost != null && outermost.getEnclosingElement() != null
                && outermost.getEnclosingElement().getKind() != ElementKind.PACKAGE) {
            outermost = outermost.getEnclosingElement();
        }
        return outermost instanceof TypeElement type
                && type.getQualifiedName().contentEquals("DeltaUpdater");
    }

    // ---- rules 4, 8, 10, 11 and 12: calls

    @Override
    public Void visitMethodInvocation(MethodInvocationTree tree, Void none) {
        called(tree);
        if (isInConstructor()) {
            checkCallOfConstructor(tree);
            checkHandedOut(tree.getArguments());
        }
        return super.visitMethodInvocation(tree, none);
    }

    @Override
    public Void visitNewClass(NewClassTree tree, Void none) {
        if (tree.getClassBody() != null) {
            broken(2, tree, "an anonymous class");
        }
        called(tree);
        if (isInConstructor()) {
            checkHandedOut(tree.getArguments());
        }
        return super.visitNewClass(tree, none);
    }

    private void called(Tree tree) {
        Element called = trees.getElement(getCurrentPath());
        if (!(called instanceof ExecutableElement)) {
            broken(4, tree, "a call of nobody knows what");
        } else if (isOwn(called)) {
            callsOf.computeIfAbsent(caller(), unused -> new HashSet<>()).add(called);
        } else if (!LIBRARY.contains(nameOf(called))) {
            broken(4, tree, nameOf(called));
        }
    }

    private static String nameOf(Element method) {
        return method.getEnclosingElement() + "." + method.getSimpleName();
    }

    private Element caller() {
        TreePath path = getCurrentPath();
        while (!(path.getLeaf() instanceof MethodTree) && path.getParentPath() != null) {
            path = path.getParentPath();
        }
        return trees.getElement(path);
    }

    private boolean isInConstructor() {
        return caller() != null && caller().getKind() == ElementKind.CONSTRUCTOR;
    }

    private void checkCallOfConstructor(MethodInvocationTree tree) {
        Element called = trees.getElement(getCurrentPath());
        boolean plain = called != null && (called.getKind() == ElementKind.CONSTRUCTOR
                || called.getModifiers().contains(Modifier.STATIC));
        if (!plain) {
            broken(12, tree, "a constructor calls a method of an object");
        }
    }

    /** What a constructor gives to a call is neither the object it makes nor a row or a list in it. */
    private void checkHandedOut(List<? extends ExpressionTree> arguments) {
        for (ExpressionTree argument : arguments) {
            TreePath path = new TreePath(getCurrentPath(), argument);
            Element given = trees.getElement(path);
            boolean held = given != null && given.getKind() == ElementKind.FIELD
                    && !given.getModifiers().contains(Modifier.STATIC)
                    && !trees.getTypeMirror(path).getKind().isPrimitive();
            if (held || argument.toString().equals("this")) {
                broken(12, argument, "a constructor hands out " + argument);
            }
        }
    }

    @Override
    public Void visitBinary(BinaryTree tree, Void none) {
        TypeMirror type = trees.getTypeMirror(getCurrentPath());
        if (type instanceof DeclaredType) {
            broken(10, tree, "texts joined by +");
        }
        return super.visitBinary(tree, none);
    }

    // ---- rule 6: what is thrown

    @Override
    public Void visitThrow(ThrowTree tree, Void none) {
        if (caller().getKind() == ElementKind.CONSTRUCTOR) {
            broken(6, tree, "a throw in a constructor");
        }
        boolean plain = tree.getExpression() instanceof NewClassTree made
                && THROWN.contains(made.getIdentifier().toString())
                && (made.getArguments().isEmpty()
                || made.getArguments().get(0).getKind() == Tree.Kind.STRING_LITERAL);
        if (!plain) {
            broken(6, tree, "throws what it should not: " + tree);
        }
        return super.visitThrow(tree, none);
    }

    // ---- rule 9: loops

    @Override
    public Void visitForLoop(ForLoopTree tree, Void none) {
        if (tree.getCondition() == null || tree.getInitializer().isEmpty()
                || tree.getUpdate().isEmpty()) {
            broken(9, tree, "a loop without a counter and its bound");
        }
        return super.visitForLoop(tree, none);
    }

    @Override
    public Void visitEnhancedForLoop(EnhancedForLoopTree tree, Void none) {
        TreePath path = new TreePath(getCurrentPath(), tree.getExpression());
        if (!(trees.getTypeMirror(path) instanceof ArrayType)) {
            broken(12, tree, "a loop over a list that is not by index");
        }
        return super.visitEnhancedForLoop(tree, none);
    }
}
