import com.sun.source.tree.AssignmentTree;
import com.sun.source.tree.BinaryTree;
import com.sun.source.tree.BlockTree;
import com.sun.source.tree.ClassTree;
import com.sun.source.tree.CompilationUnitTree;
import com.sun.source.tree.CompoundAssignmentTree;
import com.sun.source.tree.DoWhileLoopTree;
import com.sun.source.tree.ExpressionTree;
import com.sun.source.tree.ForLoopTree;
import com.sun.source.tree.ImportTree;
import com.sun.source.tree.MemberSelectTree;
import com.sun.source.tree.MethodInvocationTree;
import com.sun.source.tree.MethodTree;
import com.sun.source.tree.NewArrayTree;
import com.sun.source.tree.NewClassTree;
import com.sun.source.tree.Tree;
import com.sun.source.tree.TypeCastTree;
import com.sun.source.tree.VariableTree;
import com.sun.source.tree.WhileLoopTree;
import com.sun.source.util.JavacTask;
import com.sun.source.util.TreePath;
import com.sun.source.util.TreePathScanner;
import com.sun.source.util.Trees;
import java.nio.charset.StandardCharsets;
import java.nio.file.Files;
import java.nio.file.Path;
import java.util.ArrayList;
import java.util.EnumSet;
import java.util.HashMap;
import java.util.LinkedHashSet;
import java.util.List;
import java.util.Map;
import java.util.Set;
import javax.lang.model.element.Element;
import javax.lang.model.element.ElementKind;
import javax.lang.model.element.ExecutableElement;
import javax.lang.model.element.Modifier;
import javax.lang.model.element.TypeElement;
import javax.lang.model.element.VariableElement;
import javax.lang.model.type.ArrayType;
import javax.lang.model.type.DeclaredType;
import javax.lang.model.type.TypeKind;
import javax.lang.model.type.TypeMirror;
import javax.tools.JavaCompiler;
import javax.tools.StandardJavaFileManager;
import javax.tools.ToolProvider;

/**
 * Holds the class against LANGUAGE.md, by the compiler's own reading of it. Where the class needs less than a rule leaves
 * (no list, no double, no recursion), less is asked here: who needs more takes it up here first.
 */
final class LanguageTests extends TreePathScanner<Void, Void> {
    private static final int DEPTH = 8, PARAMETERS = 7, LINES = 60, CLASSES = 12, FIELDS = 20;
    private static final Set<String> LIBRARY = Set.of("java.lang.String.length", "java.lang.String.charAt", "java.lang.Math.max",
        "java.lang.Math.min", "java.lang.Math.abs", "java.lang.Integer.bitCount", "java.lang.System.arraycopy", "java.util.Arrays.fill");
    private static final Set<String> OBJECTS_OF = Set.of("ofKind");
    private static final Set<String> OF_ALL_OBJECTS = Set.of("equals", "hashCode", "toString", "finalize", "clone");
    private static final Set<Tree.Kind> FORBIDDEN = EnumSet.of(Tree.Kind.THROW, Tree.Kind.TRY, Tree.Kind.CATCH, Tree.Kind.SYNCHRONIZED,
        Tree.Kind.ASSERT, Tree.Kind.LAMBDA_EXPRESSION, Tree.Kind.MEMBER_REFERENCE, Tree.Kind.PACKAGE, Tree.Kind.ANNOTATION,
        Tree.Kind.DOUBLE_LITERAL, Tree.Kind.FLOAT_LITERAL, Tree.Kind.PARAMETERIZED_TYPE, Tree.Kind.ENHANCED_FOR_LOOP);
    private static final Set<Tree.Kind> COMPARING = EnumSet.of(Tree.Kind.LESS_THAN, Tree.Kind.LESS_THAN_EQUAL,
        Tree.Kind.GREATER_THAN, Tree.Kind.GREATER_THAN_EQUAL);
    private static final Set<TypeKind> NUMBERS = EnumSet.of(TypeKind.INT, TypeKind.LONG, TypeKind.SHORT, TypeKind.BYTE,
        TypeKind.CHAR, TypeKind.BOOLEAN);

    private final Trees trees;
    private final CompilationUnitTree unit;
    private final Map<ExecutableElement, Set<ExecutableElement>> callsOf = new HashMap<>();
    private final Map<ExecutableElement, Integer> depths = new HashMap<>();
    private final List<TypeElement> classes = new ArrayList<>();
    private final List<Call> calls = new ArrayList<>();
    private int loops;

    /** A call of a method of the class's own, as it stands in the text: it may run that of any kind of the receiver. */
    private static final class Call {
        final ExecutableElement from, to;
        final TypeElement receiver;
        final boolean isExact;

        Call(ExecutableElement from, ExecutableElement to, TypeElement receiver, boolean isExact) {
            this.from = from;
            this.to = to;
            this.receiver = receiver;
            this.isExact = isExact;
        }
    }

    private LanguageTests(Trees trees, CompilationUnitTree unit) {
        this.trees = trees;
        this.unit = unit;
    }

    static void run(String source) throws Exception {
        byte[] bytes = Files.readAllBytes(Path.of(source));
        check("signs of 1 to 127", new String(bytes, StandardCharsets.ISO_8859_1).chars().allMatch(c -> c >= 1 && c < 128));
        JavaCompiler javac = ToolProvider.getSystemJavaCompiler();
        try (StandardJavaFileManager files = javac.getStandardFileManager(null, null, null)) {
            JavacTask task = (JavacTask) javac.getTask(null, files, null, List.of("-proc:none"), null, files.getJavaFileObjects(source));
            CompilationUnitTree unit = task.parse().iterator().next();
            task.analyze();
            LanguageTests tests = new LanguageTests(Trees.instance(task), unit);
            tests.scan(unit, null);
            tests.linkCalls();
            tests.depthOfCalls();
            check("some twelve classes: " + tests.classes.size(), tests.classes.size() <= CLASSES);
            check("one class beside those inside it", unit.getTypeDecls().size() == 1);
        }
    }

    private static void check(String what, boolean holds) {
        Check.due(0, "LANGUAGE.md: " + what, holds ? 1 : 0, 1);
    }

    private void holds(Tree at, String what, boolean holds) {
        long line = unit.getLineMap().getLineNumber(trees.getSourcePositions().getStartPosition(unit, at));
        check("line " + line + ": " + what, holds);
    }

    @Override
    public Void scan(Tree tree, Void none) {
        if (tree != null) {
            holds(tree, tree.getKind() + " may not stand", !FORBIDDEN.contains(tree.getKind()));
            holds(tree, tree.getKind() + " of patterns", !tree.getKind().name().contains("PATTERN"));
        }
        return super.scan(tree, none);
    }

    @Override
    public Void visitImport(ImportTree tree, Void none) {
        holds(tree, "import of " + tree.getQualifiedIdentifier(), tree.getQualifiedIdentifier().toString().equals("java.util.Arrays"));
        return null;
    }

    @Override
    public Void visitClass(ClassTree tree, Void none) {
        TypeElement type = (TypeElement) elementAt(getCurrentPath());
        classes.add(type);
        boolean isOuter = getCurrentPath().getParentPath().getLeaf() == unit;
        boolean isInside = getCurrentPath().getParentPath().getLeaf() instanceof ClassTree;
        Set<Modifier> how = tree.getModifiers().getFlags();
        holds(tree, "a class inside is private and static", isOuter || isInside && how.contains(Modifier.PRIVATE) && how.contains(Modifier.STATIC));
        int fields = 0;
        for (Tree member : tree.getMembers()) {
            boolean isField = member instanceof VariableTree;
            holds(member, "no initialiser block", !(member instanceof BlockTree));
            fields += isField && !((VariableTree) member).getModifiers().getFlags().contains(Modifier.STATIC) ? 1 : 0;
        }
        holds(tree, "some twenty fields: " + fields, fields <= FIELDS);
        return super.visitClass(tree, none);
    }

    @Override
    public Void visitVariable(VariableTree tree, Void none) {
        VariableElement variable = (VariableElement) elementAt(getCurrentPath());
        holds(tree, "type " + variable.asType(), isType(variable.asType()));
        if (variable.getModifiers().contains(Modifier.STATIC)) {
            holds(tree, "a static field is a constant", variable.getConstantValue() != null);
        }
        return super.visitVariable(tree, none);
    }

    @Override
    public Void visitMethod(MethodTree tree, Void none) {
        ExecutableElement method = (ExecutableElement) elementAt(getCurrentPath());
        callsOf.put(method, new LinkedHashSet<>());
        holds(tree, "at most seven parameters", tree.getParameters().size() <= PARAMETERS);
        holds(tree, "no " + tree.getName() + " of its own", !OF_ALL_OBJECTS.contains(tree.getName().toString()));
        TypeMirror answer = method.getReturnType();
        holds(tree, "type " + answer, answer.getKind() == TypeKind.VOID || isType(answer));
        holds(tree, "a method of some sixty lines", linesOf(tree) <= LINES);
        return super.visitMethod(tree, none);
    }

    private long linesOf(Tree tree) {
        long first = trees.getSourcePositions().getStartPosition(unit, tree);
        long last = trees.getSourcePositions().getEndPosition(unit, tree);
        return last < 0 ? 0 : unit.getLineMap().getLineNumber(last) - unit.getLineMap().getLineNumber(first) + 1;
    }

    @Override
    public Void visitMethodInvocation(MethodInvocationTree tree, Void none) {
        ExecutableElement to = (ExecutableElement) elementAt(new TreePath(getCurrentPath(), tree.getMethodSelect()));
        TypeElement owner = (TypeElement) to.getEnclosingElement();
        String name = owner.getQualifiedName() + "." + to.getSimpleName();
        if (isOwn(owner)) {
            noteCall(tree, to);
        } else if (to.getKind() == ElementKind.METHOD) {
            holds(tree, "library: " + name, LIBRARY.contains(name));
            for (ExpressionTree argument : tree.getArguments()) {
                TypeMirror type = typeOf(argument);
                holds(tree, "arrays of numbers in " + name, !(type instanceof ArrayType) || isNumber(((ArrayType) type).getComponentType()));
            }
        }
        return super.visitMethodInvocation(tree, none);
    }

    private void noteCall(MethodInvocationTree tree, ExecutableElement to) {
        boolean isSuper = tree.getMethodSelect().toString().startsWith("super");
        TypeElement receiver = enclosingClass();
        if (tree.getMethodSelect() instanceof MemberSelectTree && !isSuper) {
            Element of = elementAt(new TreePath(new TreePath(getCurrentPath(), tree.getMethodSelect()),
                ((MemberSelectTree) tree.getMethodSelect()).getExpression()));
            receiver = of instanceof TypeElement ? (TypeElement) of : (TypeElement) ((DeclaredType) typeOf(((MemberSelectTree) tree.getMethodSelect()).getExpression())).asElement();
        }
        boolean isExact = isSuper || to.getKind() == ElementKind.CONSTRUCTOR || to.getModifiers().contains(Modifier.STATIC)
            || to.getModifiers().contains(Modifier.PRIVATE);
        ExecutableElement from = enclosingMethod();
        if (from != null) {
            calls.add(new Call(from, to, receiver, isExact));
            boolean isMaking = from.getKind() == ElementKind.CONSTRUCTOR;
            holds(tree, "a constructor calls nothing that may be another's", !isMaking || isExact);
        }
    }

    @Override
    public Void visitNewClass(NewClassTree tree, Void none) {
        TypeElement made = (TypeElement) elementAt(getCurrentPath()).getEnclosingElement();
        holds(tree, "no class without a name", tree.getClassBody() == null);
        holds(tree, "an object of its own: " + made, isOwn(made));
        ExecutableElement from = enclosingMethod();
        if (from != null) {
            calls.add(new Call(from, (ExecutableElement) elementAt(getCurrentPath()), made, true));
            holds(tree, "objects are made by keepers' kinds alone", OBJECTS_OF.contains(from.getSimpleName().toString()));
        }
        holds(tree, "no object in a loop", loops == 0);
        return super.visitNewClass(tree, none);
    }

    @Override
    public Void visitNewArray(NewArrayTree tree, Void none) {
        holds(tree, "arrays are made with their object, of a length that is told", enclosingMethod() == null);
        return super.visitNewArray(tree, none);
    }

    @Override
    public Void visitTypeCast(TypeCastTree tree, Void none) {
        holds(tree, "casts of numbers alone", isNumber(typeOf(tree)) && isNumber(typeOf(tree.getExpression())));
        return super.visitTypeCast(tree, none);
    }

    @Override
    public Void visitBinary(BinaryTree tree, Void none) {
        boolean isSame = tree.getKind() == Tree.Kind.EQUAL_TO || tree.getKind() == Tree.Kind.NOT_EQUAL_TO;
        holds(tree, "no two texts by ==", !isSame || !isText(tree.getLeftOperand()) && !isText(tree.getRightOperand()));
        holds(tree, "no texts by +", tree.getKind() != Tree.Kind.PLUS || !isText(tree));
        return super.visitBinary(tree, none);
    }

    @Override
    public Void visitCompoundAssignment(CompoundAssignmentTree tree, Void none) {
        holds(tree, "no texts by +=", !isText(tree));
        return super.visitCompoundAssignment(tree, none);
    }

    @Override
    public Void visitAssignment(AssignmentTree tree, Void none) {
        Element to = elementAt(new TreePath(getCurrentPath(), tree.getVariable()));
        holds(tree, "no static field is set", to == null || !to.getModifiers().contains(Modifier.STATIC));
        return super.visitAssignment(tree, none);
    }

    @Override
    public Void visitForLoop(ForLoopTree tree, Void none) {
        holds(tree, "the end of a loop is seen", isCompared(tree.getCondition()) && !tree.getUpdate().isEmpty());
        loops++;
        super.visitForLoop(tree, none);
        loops--;
        return null;
    }

    @Override
    public Void visitWhileLoop(WhileLoopTree tree, Void none) {
        holds(tree, "the end of a loop is seen", isCompared(tree.getCondition()));
        loops++;
        super.visitWhileLoop(tree, none);
        loops--;
        return null;
    }

    @Override
    public Void visitDoWhileLoop(DoWhileLoopTree tree, Void none) {
        holds(tree, "the end of a loop is seen", isCompared(tree.getCondition()));
        loops++;
        super.visitDoWhileLoop(tree, none);
        loops--;
        return null;
    }

    private boolean isCompared(Tree condition) {
        boolean[] found = new boolean[1];
        new TreePathScanner<Void, Void>() {
            @Override
            public Void visitBinary(BinaryTree tree, Void none) {
                found[0] |= COMPARING.contains(tree.getKind());
                return super.visitBinary(tree, none);
            }
        }.scan(new TreePath(getCurrentPath(), condition), null);
        return found[0];
    }

    private void linkCalls() {
        for (Call call : calls) {
            Set<ExecutableElement> targets = callsOf.get(call.from);
            if (call.isExact) {
                targets.add(call.to);
                continue;
            }
            for (TypeElement type : classes) {
                if (isKindOf(type, call.receiver) && !type.getModifiers().contains(Modifier.ABSTRACT)) {
                    targets.add(foundFrom(type, call.to));
                }
            }
        }
    }

    private void depthOfCalls() {
        for (ExecutableElement method : callsOf.keySet()) {
            int depth = depthOf(method, new LinkedHashSet<>());
            check(method.getEnclosingElement() + "." + method + " calls at most eight deep: " + depth, depth <= DEPTH);
        }
    }

    private int depthOf(ExecutableElement method, Set<ExecutableElement> open) {
        check(method + " calls itself by " + open, !open.contains(method));
        if (open.contains(method)) {
            return 0;
        }
        if (!depths.containsKey(method)) {
            open.add(method);
            int deepest = 0;
            for (ExecutableElement called : callsOf.getOrDefault(method, Set.of())) {
                deepest = Math.max(deepest, depthOf(called, open));
            }
            open.remove(method);
            depths.put(method, 1 + deepest);
        }
        return depths.get(method);
    }

    /** The method that runs where one of this type is asked: its own, or that of the nearest one that it extends. */
    private static ExecutableElement foundFrom(TypeElement type, ExecutableElement asked) {
        for (TypeElement at = type; at != null; at = above(at)) {
            for (Element member : at.getEnclosedElements()) {
                if (member.toString().equals(asked.toString())) {
                    return (ExecutableElement) member;
                }
            }
        }
        throw new IllegalStateException(type + " has no " + asked);
    }

    private static boolean isKindOf(TypeElement type, TypeElement kind) {
        for (TypeElement at = type; at != null; at = above(at)) {
            if (at.equals(kind)) {
                return true;
            }
        }
        return false;
    }

    private static TypeElement above(TypeElement type) {
        return type.getSuperclass() instanceof DeclaredType ? (TypeElement) ((DeclaredType) type.getSuperclass()).asElement() : null;
    }

    private static boolean isOwn(TypeElement type) {
        return type.getQualifiedName().toString().startsWith("OldNews");
    }

    private static boolean isNumber(TypeMirror type) {
        return type != null && NUMBERS.contains(type.getKind());
    }

    private static boolean isType(TypeMirror type) {
        if (type instanceof ArrayType) {
            TypeMirror of = ((ArrayType) type).getComponentType();
            return isNumber(of) || of instanceof DeclaredType && isOwn((TypeElement) ((DeclaredType) of).asElement());
        }
        if (type instanceof DeclaredType) {
            TypeElement named = (TypeElement) ((DeclaredType) type).asElement();
            return isOwn(named) || named.getQualifiedName().contentEquals("java.lang.String");
        }
        return isNumber(type);
    }

    private boolean isText(Tree tree) {
        TypeMirror type = typeOf(tree);
        return type != null && type.toString().equals("java.lang.String");
    }

    private TypeMirror typeOf(Tree tree) {
        return trees.getTypeMirror(trees.getPath(unit, tree));
    }

    private Element elementAt(TreePath path) {
        return trees.getElement(path);
    }

    private TypeElement enclosingClass() {
        for (TreePath at = getCurrentPath(); at != null; at = at.getParentPath()) {
            if (at.getLeaf() instanceof ClassTree) {
                return (TypeElement) elementAt(at);
            }
        }
        throw new IllegalStateException("no class around a call");
    }

    private ExecutableElement enclosingMethod() {
        for (TreePath at = getCurrentPath(); at != null; at = at.getParentPath()) {
            if (at.getLeaf() instanceof MethodTree) {
                return (ExecutableElement) elementAt(at);
            }
        }
        return null;
    }
}
