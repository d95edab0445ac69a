import com.sun.source.tree.AnnotationTree;
import com.sun.source.tree.ArrayAccessTree;
import com.sun.source.tree.AssertTree;
import com.sun.source.tree.AssignmentTree;
import com.sun.source.tree.BinaryTree;
import com.sun.source.tree.BlockTree;
import com.sun.source.tree.ClassTree;
import com.sun.source.tree.CompilationUnitTree;
import com.sun.source.tree.CompoundAssignmentTree;
import com.sun.source.tree.DoWhileLoopTree;
import com.sun.source.tree.EnhancedForLoopTree;
import com.sun.source.tree.ExpressionTree;
import com.sun.source.tree.ForLoopTree;
import com.sun.source.tree.IdentifierTree;
import com.sun.source.tree.ImportTree;
import com.sun.source.tree.LambdaExpressionTree;
import com.sun.source.tree.LiteralTree;
import com.sun.source.tree.MemberReferenceTree;
import com.sun.source.tree.MemberSelectTree;
import com.sun.source.tree.MethodInvocationTree;
import com.sun.source.tree.MethodTree;
import com.sun.source.tree.NewArrayTree;
import com.sun.source.tree.NewClassTree;
import com.sun.source.tree.SwitchTree;
import com.sun.source.tree.SynchronizedTree;
import com.sun.source.tree.ThrowTree;
import com.sun.source.tree.Tree;
import com.sun.source.tree.TryTree;
import com.sun.source.tree.TypeCastTree;
import com.sun.source.tree.UnaryTree;
import com.sun.source.tree.VariableTree;
import com.sun.source.tree.WhileLoopTree;
import com.sun.source.util.JavacTask;
import com.sun.source.util.TreePath;
import com.sun.source.util.TreePathScanner;
import com.sun.source.util.Trees;
import java.io.IOException;
import java.nio.file.Path;
import java.util.ArrayDeque;
import java.util.ArrayList;
import java.util.Deque;
import java.util.HashMap;
import java.util.HashSet;
import java.util.LinkedHashMap;
import java.util.LinkedHashSet;
import java.util.List;
import java.util.Map;
import java.util.Set;
import javax.lang.model.element.Element;
import javax.lang.model.element.ElementKind;
import javax.lang.model.element.ExecutableElement;
import javax.lang.model.element.Modifier;
import javax.lang.model.element.TypeElement;
import javax.lang.model.type.ArrayType;
import javax.lang.model.type.DeclaredType;
import javax.lang.model.type.TypeKind;
import javax.lang.model.type.TypeMirror;
import javax.tools.JavaCompiler;
import javax.tools.StandardJavaFileManager;
import javax.tools.ToolProvider;

/**
 * The rules of ../shared/LANGUAGE.md, by the tree that the compiler makes of the program. Where a rule leaves more than
 * the program uses (doubles, enums, lists, texts that are joined), what is not used is held to be outside.
 */
public final class RulesTest extends TreePathScanner<Void, Void> {
    private static final Set<String> LIBRARY = Set.of(
        "java.lang.String.length", "java.lang.String.charAt", "java.lang.String.isEmpty", "java.lang.String.equals",
        "java.lang.String.indexOf", "java.lang.String.substring", "java.lang.String.toCharArray",
        "java.lang.Math.max", "java.lang.Math.min", "java.lang.Math.abs", "java.lang.Math.floorDiv", "java.lang.Math.floorMod",
        "java.lang.Integer.bitCount", "java.lang.Integer.compare", "java.lang.Long.compare",
        "java.lang.System.arraycopy", "java.util.Arrays.copyOf", "java.util.Arrays.copyOfRange", "java.util.Arrays.fill");
    private static final Set<TypeKind> NUMBERS = Set.of(TypeKind.INT, TypeKind.LONG, TypeKind.SHORT, TypeKind.BYTE, TypeKind.CHAR);
    private static final Set<TypeKind> CONSTANTS = Set.of(TypeKind.INT, TypeKind.LONG, TypeKind.BOOLEAN, TypeKind.CHAR);
    private static final Set<TypeKind> CONSTANT_ROWS = Set.of(TypeKind.INT, TypeKind.LONG, TypeKind.CHAR, TypeKind.BYTE);
    private static final int CLASSES = 12;
    private static final int FIELDS = 20;
    private static final int PARAMETERS = 7;
    private static final int LINES = 60;
    private static final int DEEP = 8;
    private static final int OPEN_AT_ONCE = 300;
    // Eight brackets within one another, and the ninth that is refused.
    private static final int LEVELS = 9;

    private final Trees trees;
    private final CompilationUnitTree unit;
    private final Map<ExecutableElement, Set<ExecutableElement>> calls = new LinkedHashMap<>();
    private final Set<String> faceNames = new HashSet<>();
    private int classes = 0;
    private int loops = 0;

    private RulesTest(Trees trees, CompilationUnitTree unit) {
        this.trees = trees;
        this.unit = unit;
    }

    public static void main(String[] args) throws IOException {
        JavaCompiler compiler = ToolProvider.getSystemJavaCompiler();
        try (StandardJavaFileManager files = compiler.getStandardFileManager(null, null, null)) {
            Path source = Path.of(args.length > 0 ? args[0] : "src/main/java/BracketHouse.java");
            JavacTask task = (JavacTask) compiler.getTask(null, files, null, List.of("-proc:none"), null, files.getJavaFileObjects(source));
            CompilationUnitTree unit = task.parse().iterator().next();
            task.analyze();
            RulesTest test = new RulesTest(Trees.instance(task), unit);
            test.scan(new TreePath(unit), null);
            test.wholeProgram();
        }
        Due.close();
    }

    private void holds(int rule, String what, Tree at, boolean is) {
        long line = at == null ? 0 : unit.getLineMap().getLineNumber(trees.getSourcePositions().getStartPosition(unit, at));
        Due.is("rule " + rule + ", " + what + (at == null ? "" : ", line " + line), is ? 1 : 0, 1);
    }

    private Element element(Tree tree) {
        return trees.getElement(new TreePath(getCurrentPath(), tree));
    }

    private TypeMirror typeOf(Tree tree) {
        return trees.getTypeMirror(new TreePath(getCurrentPath(), tree));
    }

    private static boolean isOwn(Element e) {
        Element out = e;
        while (out != null && out.getKind() != ElementKind.PACKAGE) {
            if (out.getSimpleName().contentEquals("BracketHouse")) return true;
            out = out.getEnclosingElement();
        }
        return false;
    }

    private static boolean isString(TypeMirror type) {
        return type != null && type.toString().equals("java.lang.String");
    }

    private static boolean isOwnType(TypeMirror type) {
        return type instanceof DeclaredType && isOwn(((DeclaredType) type).asElement());
    }

    private <T extends Tree> T around(Class<T> kind) {
        for (TreePath p = getCurrentPath().getParentPath(); p != null; p = p.getParentPath()) if (kind.isInstance(p.getLeaf())) return kind.cast(p.getLeaf());
        return null;
    }

    // ---- rules 1, 2: the face, classes ----

    @Override
    public Void visitCompilationUnit(CompilationUnitTree node, Void none) {
        holds(1, "there is no package line", node, node.getPackage() == null);
        holds(1, "there is one class at the top", node, node.getTypeDecls().size() == 1);
        return super.visitCompilationUnit(node, none);
    }

    @Override
    public Void visitImport(ImportTree node, Void none) {
        String name = node.getQualifiedIdentifier().toString();
        holds(4, "the import of " + name, node, Set.of("java.util.Arrays", "java.util.ArrayList", "java.util.List", "java.util.Iterator").contains(name));
        return super.visitImport(node, none);
    }

    @Override
    public Void visitClass(ClassTree node, Void none) {
        TypeElement e = (TypeElement) trees.getElement(getCurrentPath());
        boolean top = getCurrentPath().getParentPath().getLeaf() == unit;
        classes++;
        if (top) {
            holds(1, "the class is public and final", node, e.getModifiers().equals(Set.of(Modifier.PUBLIC, Modifier.FINAL)));
        } else {
            holds(2, e + " stands in a class, not in a method", node, getCurrentPath().getParentPath().getLeaf() instanceof ClassTree);
            holds(2, e + " is static", node, e.getModifiers().contains(Modifier.STATIC));
            holds(1, e + " is private or package-visible", node, !e.getModifiers().contains(Modifier.PUBLIC) && !e.getModifiers().contains(Modifier.PROTECTED));
        }
        holds(2, e + " is a plain class", node, node.getKind() == Tree.Kind.CLASS && node.getExtendsClause() == null && node.getImplementsClause().isEmpty());
        int fields = 0;
        for (Element inside : e.getEnclosedElements()) {
            boolean isField = inside.getKind() == ElementKind.FIELD;
            if (isField && !inside.getModifiers().contains(Modifier.STATIC)) fields++;
            boolean isClass = inside.getKind().isClass();
            boolean hidden = inside.getModifiers().contains(Modifier.PRIVATE);
            if (top && !isClass) holds(1, inside + " is public or private", node, hidden || inside.getModifiers().contains(Modifier.PUBLIC));
            if (top && !hidden && inside.getKind() == ElementKind.METHOD) faceNames.add(inside.getSimpleName().toString());
            holds(5, e + " has no block of its own", node, inside.getKind() != ElementKind.STATIC_INIT && inside.getKind() != ElementKind.INSTANCE_INIT);
        }
        holds(11, e + " has some twenty fields: " + fields, node, fields <= FIELDS);
        return super.visitClass(node, none);
    }

    @Override
    public Void visitBlock(BlockTree node, Void none) {
        holds(5, "no block stands in a class by itself", node, !(getCurrentPath().getParentPath().getLeaf() instanceof ClassTree));
        return super.visitBlock(node, none);
    }

    @Override
    public Void visitLambdaExpression(LambdaExpressionTree node, Void none) {
        holds(2, "a lambda", node, false);
        return null;
    }

    @Override
    public Void visitMemberReference(MemberReferenceTree node, Void none) {
        holds(2, "a method reference", node, false);
        return null;
    }

    @Override
    public Void visitAnnotation(AnnotationTree node, Void none) {
        holds(4, "an annotation", node, false);
        return null;
    }

    // ---- rules 3, 5: types, static fields ----

    private static boolean isAllowed(TypeMirror type) {
        if (type.getKind() == TypeKind.VOID || type.getKind() == TypeKind.BOOLEAN || NUMBERS.contains(type.getKind()) || isString(type) || isOwnType(type)) return true;
        if (!(type instanceof ArrayType)) return false;
        TypeMirror of = ((ArrayType) type).getComponentType();
        if (of.getKind() == TypeKind.BOOLEAN || NUMBERS.contains(of.getKind()) || isOwnType(of)) return true;
        return of instanceof ArrayType && NUMBERS.contains(((ArrayType) of).getComponentType().getKind());
    }

    @Override
    public Void visitVariable(VariableTree node, Void none) {
        Element e = trees.getElement(getCurrentPath());
        holds(3, "the type of " + node.getName() + ", " + e.asType(), node, isAllowed(e.asType()));
        if (e.getModifiers().contains(Modifier.STATIC)) {
            holds(5, node.getName() + " is final", node, e.getModifiers().contains(Modifier.FINAL));
            boolean row = e.asType() instanceof ArrayType;
            boolean fine = row
                ? CONSTANT_ROWS.contains(((ArrayType) e.asType()).getComponentType().getKind()) && node.getInitializer() instanceof NewArrayTree
                    && ((NewArrayTree) node.getInitializer()).getInitializers() != null
                : (CONSTANTS.contains(e.asType().getKind()) || isString(e.asType())) && ((javax.lang.model.element.VariableElement) e).getConstantValue() != null;
            holds(5, node.getName() + " is a constant that is written out", node, fine);
        }
        return super.visitVariable(node, none);
    }

    private void notStatic(ExpressionTree target, Tree at) {
        ExpressionTree of = target;
        while (of instanceof ArrayAccessTree) of = ((ArrayAccessTree) of).getExpression();
        Element e = element(of);
        holds(5, of + " is no static field that is changed", at, e == null || !e.getModifiers().contains(Modifier.STATIC));
    }

    @Override
    public Void visitAssignment(AssignmentTree node, Void none) {
        notStatic(node.getVariable(), node);
        return super.visitAssignment(node, none);
    }

    @Override
    public Void visitCompoundAssignment(CompoundAssignmentTree node, Void none) {
        notStatic(node.getVariable(), node);
        holds(10, "a text is joined", node, !isString(typeOf(node.getVariable())));
        return super.visitCompoundAssignment(node, none);
    }

    @Override
    public Void visitUnary(UnaryTree node, Void none) {
        switch (node.getKind()) {
            case PREFIX_INCREMENT: case PREFIX_DECREMENT: case POSTFIX_INCREMENT: case POSTFIX_DECREMENT: notStatic(node.getExpression(), node); break;
            default: break;
        }
        return super.visitUnary(node, none);
    }

    // ---- rules 4, 13: the library ----

    @Override
    public Void visitMethodInvocation(MethodInvocationTree node, Void none) {
        ExecutableElement called = (ExecutableElement) element(node.getMethodSelect());
        if (called.getKind() == ElementKind.CONSTRUCTOR) return super.visitMethodInvocation(node, none);
        String name = called.getEnclosingElement() + "." + called.getSimpleName();
        if (isOwn(called)) {
            addCall(called);
            MethodTree in = around(MethodTree.class);
            holds(12, "a constructor, a field's first value calls " + name, node, in != null && !in.getName().contentEquals("<init>"));
        } else {
            holds(4, "the call of " + name, node, LIBRARY.contains(name));
            if (called.getSimpleName().contentEquals("copyOf") || called.getSimpleName().contentEquals("copyOfRange") || called.getSimpleName().contentEquals("fill")) {
                TypeMirror row = typeOf(node.getArguments().get(0));
                holds(4, name + " over numbers", node, row instanceof ArrayType && NUMBERS.contains(((ArrayType) row).getComponentType().getKind()));
            }
        }
        return super.visitMethodInvocation(node, none);
    }

    @Override
    public Void visitMemberSelect(MemberSelectTree node, Void none) {
        Element e = trees.getElement(getCurrentPath());
        boolean isLength = node.getIdentifier().contentEquals("length") && typeOf(node.getExpression()) instanceof ArrayType;
        if (e != null && e.getKind() == ElementKind.FIELD && !isLength) holds(4, "the field " + node, node, isOwn(e));
        return super.visitMemberSelect(node, none);
    }

    @Override
    public Void visitNewClass(NewClassTree node, Void none) {
        ExecutableElement made = (ExecutableElement) trees.getElement(getCurrentPath());
        holds(4, "a new " + node.getIdentifier(), node, isOwn(made));
        holds(2, "a class without a name", node, node.getClassBody() == null);
        addCall(made);
        for (ExpressionTree argument : node.getArguments()) holds(12, "an object hands itself out", node, !argument.toString().equals("this"));
        inLoop(node);
        return super.visitNewClass(node, none);
    }

    @Override
    public Void visitNewArray(NewArrayTree node, Void none) {
        inLoop(node);
        return super.visitNewArray(node, none);
    }

    /** What the program makes in loops are the images, in its constructor alone. */
    private void inLoop(Tree node) {
        boolean loop = around(ForLoopTree.class) != null || around(WhileLoopTree.class) != null || around(DoWhileLoopTree.class) != null || around(EnhancedForLoopTree.class) != null;
        MethodTree in = around(MethodTree.class);
        holds(12, "an object is made in a loop", node, !loop || in != null && in.getName().contentEquals("<init>"));
    }

    // ---- rules 6, 10: what Java has and the program has not ----

    @Override
    public Void visitThrow(ThrowTree node, Void none) {
        holds(6, "throw", node, false);
        return null;
    }

    @Override
    public Void visitTry(TryTree node, Void none) {
        holds(6, "try", node, false);
        return null;
    }

    @Override
    public Void visitSynchronized(SynchronizedTree node, Void none) {
        holds(6, "synchronized", node, false);
        return null;
    }

    @Override
    public Void visitAssert(AssertTree node, Void none) {
        holds(6, "assert", node, false);
        return null;
    }

    @Override
    public Void visitTypeCast(TypeCastTree node, Void none) {
        holds(6, "a cast among numbers", node, typeOf(node.getType()).getKind().isPrimitive());
        return super.visitTypeCast(node, none);
    }

    @Override
    public Void visitBinary(BinaryTree node, Void none) {
        TypeMirror left = typeOf(node.getLeftOperand());
        TypeMirror right = typeOf(node.getRightOperand());
        holds(10, "texts are compared, joined by a sign", node, !isString(left) && !isString(right));
        return super.visitBinary(node, none);
    }

    @Override
    public Void visitSwitch(SwitchTree node, Void none) {
        holds(10, "a switch on numbers", node, NUMBERS.contains(typeOf(node.getExpression()).getKind()));
        return super.visitSwitch(node, none);
    }

    @Override
    public Void visitLiteral(LiteralTree node, Void none) {
        if (node.getKind() == Tree.Kind.STRING_LITERAL) {
            for (char c : ((String) node.getValue()).toCharArray()) holds(4, "a sign of a text", node, c >= 1 && c <= 127);
        }
        return super.visitLiteral(node, none);
    }

    @Override
    public Void visitIdentifier(IdentifierTree node, Void none) {
        holds(6, "the name " + node.getName(), node, !Set.of("Object", "Class", "Throwable", "Thread", "Runtime").contains(node.getName().toString()));
        return super.visitIdentifier(node, none);
    }

    // ---- rule 9: loops ----

    private void loop(Tree node, ExpressionTree condition) {
        loops++;
        boolean bound = condition != null && condition.toString().matches(".*(<|>|<=|>=).*");
        holds(9, "a loop's end that can be seen", node, bound);
    }

    @Override
    public Void visitForLoop(ForLoopTree node, Void none) {
        loop(node, node.getCondition());
        holds(9, "a loop's step", node, node.getUpdate().size() == 1);
        return super.visitForLoop(node, none);
    }

    @Override
    public Void visitWhileLoop(WhileLoopTree node, Void none) {
        loop(node, node.getCondition());
        return super.visitWhileLoop(node, none);
    }

    @Override
    public Void visitDoWhileLoop(DoWhileLoopTree node, Void none) {
        loop(node, node.getCondition());
        return super.visitDoWhileLoop(node, none);
    }

    // ---- rules 8, 11: methods and how deep they call ----

    @Override
    public Void visitMethod(MethodTree node, Void none) {
        ExecutableElement e = (ExecutableElement) trees.getElement(getCurrentPath());
        calls.computeIfAbsent(e, k -> new LinkedHashSet<>());
        holds(11, node.getName() + " has at most seven parameters", node, node.getParameters().size() <= PARAMETERS);
        holds(3, node.getName() + " answers " + e.getReturnType(), node, isAllowed(e.getReturnType()));
        holds(6, node.getName() + " throws nothing", node, node.getThrows().isEmpty());
        holds(6, node.getName() + " is none of every object", node, !Set.of("equals", "hashCode", "toString", "finalize", "clone").contains(node.getName().toString()));
        long first = unit.getLineMap().getLineNumber(trees.getSourcePositions().getStartPosition(unit, node));
        long last = unit.getLineMap().getLineNumber(trees.getSourcePositions().getEndPosition(unit, node));
        holds(11, node.getName() + " has some sixty lines: " + (last - first + 1), node, last - first + 1 <= LINES);
        return super.visitMethod(node, none);
    }

    /** A call from where the scan stands; what fields' first values call is called by each constructor of their class. */
    private void addCall(ExecutableElement called) {
        MethodTree in = around(MethodTree.class);
        List<ExecutableElement> callers = new ArrayList<>();
        if (in != null) {
            for (TreePath p = getCurrentPath(); p != null; p = p.getParentPath()) if (p.getLeaf() == in) callers.add((ExecutableElement) trees.getElement(p));
        } else {
            ClassTree at = around(ClassTree.class);
            for (TreePath p = getCurrentPath(); p != null; p = p.getParentPath()) {
                if (p.getLeaf() != at) continue;
                for (Element e : trees.getElement(p).getEnclosedElements()) if (e.getKind() == ElementKind.CONSTRUCTOR) callers.add((ExecutableElement) e);
            }
        }
        for (ExecutableElement caller : callers) calls.computeIfAbsent(caller, k -> new LinkedHashSet<>()).add(called);
    }

    private Set<ExecutableElement> reached(ExecutableElement from) {
        Set<ExecutableElement> all = new HashSet<>();
        Deque<ExecutableElement> open = new ArrayDeque<>(calls.getOrDefault(from, Set.of()));
        while (!open.isEmpty()) {
            ExecutableElement e = open.pop();
            if (all.add(e)) open.addAll(calls.getOrDefault(e, Set.of()));
        }
        return all;
    }

    private void wholeProgram() {
        holds(11, "the file has some twelve classes: " + classes, null, classes <= CLASSES);
        holds(9, "loops were seen", null, loops > 20);
        holds(1, "the face was seen", null, faceNames.size() == 36);
        Map<ExecutableElement, Set<ExecutableElement>> reaches = new HashMap<>();
        for (ExecutableElement e : calls.keySet()) reaches.put(e, reached(e));
        for (ExecutableElement e : calls.keySet()) {
            boolean recursive = reaches.get(e).contains(e);
            boolean hidden = e.getModifiers().contains(Modifier.PRIVATE);
            holds(8, "the recursive " + e + " is private", null, !recursive || hidden);
            boolean isFace = e.getModifiers().contains(Modifier.PUBLIC);
            holds(1, e + " bears no public one's name", null, isFace || !faceNames.contains(e.getSimpleName().toString()));
        }
        for (ExecutableElement e : calls.keySet()) {
            if (!e.getModifiers().contains(Modifier.PUBLIC)) continue;
            int deep = depth(e, reaches, 1);
            holds(11, e + " goes at most eight calls deep: " + deep, null, deep <= DEEP);
            int open = depth(e, reaches, LEVELS);
            holds(8, e + " has fewer than 300 calls open at once: " + open, null, open < OPEN_AT_ONCE);
        }
    }

    /** The longest chain of calls, methods that call one another counted as one; or each of them so often as there are levels. */
    private int depth(ExecutableElement e, Map<ExecutableElement, Set<ExecutableElement>> reaches, int levels) {
        Set<ExecutableElement> group = new LinkedHashSet<>(List.of(e));
        for (ExecutableElement other : reaches.getOrDefault(e, Set.of())) if (reaches.getOrDefault(other, Set.of()).contains(e)) group.add(other);
        boolean recursive = reaches.getOrDefault(e, Set.of()).contains(e);
        int further = 0;
        for (ExecutableElement from : group) {
            for (ExecutableElement to : calls.getOrDefault(from, Set.of())) if (!group.contains(to)) further = Math.max(further, depth(to, reaches, levels));
        }
        int own = recursive && levels > 1 ? group.size() * levels : 1;
        return own + further;
    }
}
