import com.sun.source.tree.AnnotationTree;
import com.sun.source.tree.AssertTree;
import com.sun.source.tree.BinaryTree;
import com.sun.source.tree.CatchTree;
import com.sun.source.tree.ClassTree;
import com.sun.source.tree.CompilationUnitTree;
import com.sun.source.tree.CompoundAssignmentTree;
import com.sun.source.tree.ExpressionTree;
import com.sun.source.tree.ForLoopTree;
import com.sun.source.tree.IdentifierTree;
import com.sun.source.tree.LambdaExpressionTree;
import com.sun.source.tree.LiteralTree;
import com.sun.source.tree.MemberReferenceTree;
import com.sun.source.tree.MemberSelectTree;
import com.sun.source.tree.MethodInvocationTree;
import com.sun.source.tree.MethodTree;
import com.sun.source.tree.NewClassTree;
import com.sun.source.tree.SynchronizedTree;
import com.sun.source.tree.ThrowTree;
import com.sun.source.tree.Tree;
import com.sun.source.tree.TryTree;
import com.sun.source.tree.VariableTree;
import com.sun.source.util.JavacTask;
import com.sun.source.util.TreePath;
import com.sun.source.util.TreePathScanner;
import com.sun.source.util.Trees;
import java.io.IOException;
import java.nio.file.Files;
import java.nio.file.Path;
import java.util.List;
import java.util.Set;
import javax.lang.model.element.Element;
import javax.lang.model.element.ElementKind;
import javax.lang.model.element.ExecutableElement;
import javax.lang.model.element.Modifier;
import javax.lang.model.element.TypeElement;
import javax.lang.model.type.ArrayType;
import javax.lang.model.type.DeclaredType;
import javax.lang.model.type.TypeKind;
import javax.lang.model.type.TypeMirror;
import javax.tools.JavaCompiler;
import javax.tools.StandardJavaFileManager;
import javax.tools.ToolProvider;

/** The rules of LANGUAGE.md that can be seen in the source, by their numbers; FaceTest looks at members and fields. */
final class LanguageTest extends TreePathScanner<Void, Void> {
    private static final Path SOURCE = Path.of("src", "main", "java", "AboveIsShut.java");
    private static final int MOST_LINES = 60;
    private static final int MOST_CLASSES = 12;
    private static final int MOST_PARAMETERS = 7;
    private static final int DEEPEST = 8;

    private static final Set<String> LIBRARY_TYPES = Set.of("java.lang.String", "java.lang.StringBuilder",
        "java.lang.Integer", "java.util.List", "java.util.ArrayList");
    private static final Set<String> NUMBERS = Set.of("compare", "max", "min", "abs", "bitCount", "floorDiv", "floorMod",
        "signum", "numberOfTrailingZeros", "numberOfLeadingZeros");
    private static final Set<String> LISTS = Set.of("<init>", "add", "get", "set", "remove", "size", "isEmpty", "clear", "of");
    private static final Set<String> THROWN = Set.of("IllegalStateException", "IllegalArgumentException",
        "IndexOutOfBoundsException", "ArithmeticException", "UnsupportedOperationException", "NoSuchElementException",
        "RuntimeException");

    private final CompilationUnitTree unit;
    private final Trees trees;
    private final CallDepth depth;
    private Element method = null;
    private boolean methodThrows = false;
    private boolean methodTries = false;
    private int classes = 0;

    private LanguageTest(CompilationUnitTree unit, JavacTask task) {
        this.unit = unit;
        this.trees = Trees.instance(task);
        this.depth = new CallDepth(task.getElements());
    }

    public static void main(String[] args) throws IOException {
        JavaCompiler compiler = ToolProvider.getSystemJavaCompiler();
        try (StandardJavaFileManager files = compiler.getStandardFileManager(null, null, null)) {
            JavacTask task = (JavacTask) compiler.getTask(null, files, null, List.of("-proc:none"), null,
                files.getJavaFileObjects(SOURCE));
            CompilationUnitTree unit = task.parse().iterator().next();
            task.analyze();
            new LanguageTest(unit, task).all();
        }
        Check.end();
    }

    private void all() throws IOException {
        Check.holds("1: no package line", unit.getPackageName() == null);
        Check.due("1: so many classes side by side", unit.getTypeDecls().size(), 1);
        Check.holds("4: signs 1 to 127", Files.readString(SOURCE).chars().allMatch(sign -> sign >= 1 && sign <= 127));
        scan(unit, null);
        Check.holds("11: at most twelve classes", classes <= MOST_CLASSES);
        List<String> deepest = depth.deepest();
        Check.holds("11: at most eight deep: " + deepest, deepest.size() <= DEEPEST);
        Check.holds("8: no method comes back to itself: " + depth.circles(), depth.circles().isEmpty());
    }

    private void keeps(int rule, Tree where, boolean so) {
        long line = unit.getLineMap().getLineNumber(trees.getSourcePositions().getStartPosition(unit, where));
        Check.holds("rule " + rule + " is kept in line " + line, so);
    }

    public Void visitClass(ClassTree tree, Void none) {
        classes++;
        Element owner = trees.getElement(getCurrentPath());
        depth.hasClass((TypeElement) owner);
        return super.visitClass(tree, none);
    }

    public Void visitMethod(MethodTree tree, Void none) {
        method = trees.getElement(getCurrentPath());
        methodThrows = false;
        methodTries = false;
        keeps(11, tree, tree.getParameters().size() <= MOST_PARAMETERS);
        keeps(11, tree, lines(tree) <= MOST_LINES);
        keeps(6, tree, !Set.of("equals", "hashCode", "toString").contains(tree.getName().toString()));
        TypeMirror answer = ((ExecutableElement) method).getReturnType();
        keeps(3, tree, answer.getKind() == TypeKind.VOID || isOfTheLanguage(answer));
        super.visitMethod(tree, none);
        keeps(6, tree, !methodThrows || !methodTries && method.getKind() != ElementKind.CONSTRUCTOR);
        method = null;
        return null;
    }

    private long lines(MethodTree tree) {
        long start = trees.getSourcePositions().getStartPosition(unit, tree);
        long end = trees.getSourcePositions().getEndPosition(unit, tree);
        return end < 0 ? 0 : unit.getLineMap().getLineNumber(end) - unit.getLineMap().getLineNumber(start) + 1;
    }

    public Void visitVariable(VariableTree tree, Void none) {
        Element variable = trees.getElement(getCurrentPath());
        if (variable.getKind() != ElementKind.EXCEPTION_PARAMETER) {
            keeps(3, tree, isOfTheLanguage(variable.asType()));
        }
        return super.visitVariable(tree, none);
    }

    private boolean isOfTheLanguage(TypeMirror type) {
        if (type.getKind() == TypeKind.ARRAY) {
            TypeMirror of = ((ArrayType) type).getComponentType();
            if (of.getKind() == TypeKind.ARRAY) {
                return ((ArrayType) of).getComponentType().getKind().isPrimitive();
            }
            return of.getKind().isPrimitive() || isOwn(of);
        }
        return type.getKind().isPrimitive() || type.getKind() == TypeKind.TYPEVAR || isOwn(type)
            || LIBRARY_TYPES.contains(type.toString().replaceAll("<.*", ""));
    }

    private boolean isOwn(TypeMirror type) {
        return type.getKind() == TypeKind.DECLARED && isInTheFile(((DeclaredType) type).asElement());
    }

    private static boolean isInTheFile(Element one) {
        Element outer = one;
        while (outer != null && !outer.getSimpleName().contentEquals("AboveIsShut")) {
            outer = outer.getEnclosingElement();
        }
        return outer != null;
    }

    public Void visitMethodInvocation(MethodInvocationTree tree, Void none) {
        ExpressionTree select = tree.getMethodSelect();
        boolean exactly = select instanceof MemberSelectTree
            && ((MemberSelectTree) select).getExpression().toString().equals("super");
        calls(tree, trees.getElement(new TreePath(getCurrentPath(), select)), exactly);
        return super.visitMethodInvocation(tree, none);
    }

    public Void visitNewClass(NewClassTree tree, Void none) {
        calls(tree, trees.getElement(getCurrentPath()), true);
        return super.visitNewClass(tree, none);
    }

    private void calls(Tree where, Element called, boolean exactly) {
        TypeElement owner = (TypeElement) called.getEnclosingElement();
        boolean own = isInTheFile(owner);
        keeps(4, where, own || isListed(owner.getSimpleName().toString(), called.getSimpleName().toString()));
        Element caller = method != null ? method : enclosingClass();
        depth.hasCall(caller, (ExecutableElement) called, exactly);
        if (own && method != null && method.getKind() == ElementKind.CONSTRUCTOR) {
            keeps(12, where, called.getKind() == ElementKind.CONSTRUCTOR || called.getModifiers().contains(Modifier.STATIC)
                || called.getModifiers().contains(Modifier.PRIVATE) || owner.getModifiers().contains(Modifier.FINAL));
        }
    }

    private Element enclosingClass() {
        TreePath path = getCurrentPath();
        while (!(path.getLeaf() instanceof ClassTree)) {
            path = path.getParentPath();
        }
        return trees.getElement(path);
    }

    private static boolean isListed(String owner, String name) {
        switch (owner) {
            case "String":
                return Set.of("length", "charAt", "isEmpty", "equals", "indexOf", "substring", "toCharArray", "<init>")
                    .contains(name);
            case "StringBuilder":
                return Set.of("<init>", "append", "charAt", "setCharAt", "setLength", "deleteCharAt", "reverse", "length",
                    "toString").contains(name);
            case "Integer":
            case "Long":
            case "Math":
                return NUMBERS.contains(name);
            case "System":
                return name.equals("arraycopy");
            case "Arrays":
                return Set.of("copyOf", "copyOfRange", "fill").contains(name);
            case "ArrayList":
            case "List":
                return LISTS.contains(name);
            default:
                return name.equals("<init>") && (owner.equals("Object") || THROWN.contains(owner));
        }
    }

    public Void visitMemberSelect(MemberSelectTree tree, Void none) {
        fieldOfTheFile(tree);
        return super.visitMemberSelect(tree, none);
    }

    public Void visitIdentifier(IdentifierTree tree, Void none) {
        fieldOfTheFile(tree);
        return super.visitIdentifier(tree, none);
    }

    private void fieldOfTheFile(Tree tree) {
        Element named = trees.getElement(getCurrentPath());
        if (named != null && named.getKind() == ElementKind.FIELD) {
            String name = named.getSimpleName().toString();
            keeps(4, tree, Set.of("this", "super", "length").contains(name) || isInTheFile(named));
        }
    }

    public Void visitThrow(ThrowTree tree, Void none) {
        methodThrows = true;
        boolean plain = tree.getExpression() instanceof NewClassTree;
        keeps(6, tree, plain);
        if (plain) {
            NewClassTree made = (NewClassTree) tree.getExpression();
            keeps(6, tree, THROWN.contains(made.getIdentifier().toString()));
            keeps(6, tree, made.getArguments().size() <= 1);
            for (ExpressionTree text : made.getArguments()) {
                keeps(6, tree, text instanceof LiteralTree);
            }
        }
        return super.visitThrow(tree, none);
    }

    public Void visitTry(TryTree tree, Void none) {
        methodTries = true;
        keeps(6, tree, tree.getFinallyBlock() == null && tree.getResources().isEmpty());
        return super.visitTry(tree, none);
    }

    /** The task's own wish goes beyond rule 6: what the machine throws is not to be caught by a class above it. */
    public Void visitCatch(CatchTree tree, Void none) {
        String caught = tree.getParameter().getType().toString();
        keeps(6, tree, THROWN.contains(caught));
        keeps(6, tree, !Set.of("RuntimeException", "IndexOutOfBoundsException", "ArithmeticException").contains(caught));
        String name = tree.getParameter().getName().toString();
        keeps(6, tree, !tree.getBlock().toString().matches("(?s).*\\b" + name + "\\b.*"));
        return super.visitCatch(tree, none);
    }

    public Void visitForLoop(ForLoopTree tree, Void none) {
        keeps(9, tree, tree.getCondition() != null);
        return super.visitForLoop(tree, none);
    }

    public Void visitBinary(BinaryTree tree, Void none) {
        keeps(10, tree, tree.getKind() != Tree.Kind.PLUS || !isText(tree));
        if (tree.getKind() == Tree.Kind.EQUAL_TO || tree.getKind() == Tree.Kind.NOT_EQUAL_TO) {
            boolean texts = trees.getTypeMirror(new TreePath(getCurrentPath(), tree.getLeftOperand()))
                .toString().matches("java.lang.(String|Integer)");
            keeps(6, tree, !texts);
        }
        return super.visitBinary(tree, none);
    }

    public Void visitCompoundAssignment(CompoundAssignmentTree tree, Void none) {
        keeps(10, tree, !isText(tree));
        return super.visitCompoundAssignment(tree, none);
    }

    private boolean isText(Tree tree) {
        return trees.getTypeMirror(getCurrentPath()).toString().equals("java.lang.String");
    }

    public Void visitLambdaExpression(LambdaExpressionTree tree, Void none) {
        keeps(2, tree, false);
        return null;
    }

    public Void visitMemberReference(MemberReferenceTree tree, Void none) {
        keeps(2, tree, false);
        return null;
    }

    public Void visitSynchronized(SynchronizedTree tree, Void none) {
        keeps(6, tree, false);
        return null;
    }

    public Void visitAssert(AssertTree tree, Void none) {
        keeps(6, tree, false);
        return null;
    }

    public Void visitAnnotation(AnnotationTree tree, Void none) {
        keeps(4, tree, false);
        return null;
    }
}
