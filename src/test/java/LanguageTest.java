import com.sun.source.tree.*;
import com.sun.source.util.JavacTask;
import com.sun.source.util.TreePath;
import com.sun.source.util.TreePathScanner;
import com.sun.source.util.Trees;
import java.nio.file.Path;
import java.util.ArrayList;
import java.util.HashSet;
import java.util.LinkedHashMap;
import java.util.LinkedHashSet;
import java.util.List;
import java.util.Map;
import java.util.Set;
import javax.lang.model.element.Element;
import javax.lang.model.element.ElementKind;
import javax.lang.model.element.ExecutableElement;
import javax.lang.model.element.Modifier;
import javax.lang.model.element.TypeElement;
import javax.lang.model.type.ArrayType;
import javax.lang.model.type.TypeKind;
import javax.lang.model.type.TypeMirror;
import javax.tools.JavaCompiler;
import javax.tools.StandardJavaFileManager;
import javax.tools.ToolProvider;

/** Looks at the source of LongNoon, as the compiler understands it, for what LANGUAGE.md rules out. */
public final class LanguageTest extends TreePathScanner<Void, Void> {
    private static final int MOST_LINES = 60, MOST_NUMBERS = 7, MOST_DEEP = 8, MOST_CLASSES = 12, MOST_FIELDS = 20;
    private static final Set<String> STRING = Set.of("length", "charAt", "isEmpty", "equals", "indexOf", "substring",
        "toCharArray");
    private static final Set<String> BUILDER = Set.of("append", "charAt", "setCharAt", "setLength", "deleteCharAt",
        "reverse", "length", "toString");
    private static final Set<String> ARRAYS = Set.of("copyOf", "copyOfRange", "fill");
    private static final Set<String> OWN_KINDS = Set.of("java.lang.String", "java.lang.StringBuilder");

    private final CompilationUnitTree unit;
    private final Trees trees;
    private final Map<ExecutableElement, Set<ExecutableElement>> calls = new LinkedHashMap<>();
    private int classes = 0;
    private int wrong = 0;

    private LanguageTest(CompilationUnitTree unit, Trees trees) {
        this.unit = unit;
        this.trees = trees;
    }

    public static void main(String[] args) throws Exception {
        JavaCompiler compiler = ToolProvider.getSystemJavaCompiler();
        StandardJavaFileManager files = compiler.getStandardFileManager(null, null, null);
        Path path = Path.of(args.length > 0 ? args[0] : "src/main/java/LongNoon.java");
        JavacTask task = (JavacTask) compiler.getTask(null, files, null, List.of("-proc:none"), null,
            files.getJavaFileObjects(path));
        CompilationUnitTree unit = task.parse().iterator().next();
        task.analyze();
        LanguageTest test = new LanguageTest(unit, Trees.instance(task));
        test.scan(unit, null);
        test.lookAtCalls();
        System.out.println(test.wrong == 0 ? "the source keeps to LANGUAGE.md, as far as the compiler can tell"
            : test.wrong + " places are ruled out");
        if (test.wrong != 0) {
            System.exit(1);
        }
    }

    // ---- where something is, and what

    private void ruledOut(int rule, Tree at, String what) {
        wrong++;
        System.out.println("line " + lineOf(trees.getSourcePositions().getStartPosition(unit, at)) + ", rule " + rule
            + ": " + what);
    }

    private long lineOf(long position) {
        return unit.getLineMap().getLineNumber(position);
    }

    private Element elementOf(Tree t) {
        return trees.getElement(new TreePath(getCurrentPath(), t));
    }

    private TypeMirror typeOf(Tree t) {
        return trees.getTypeMirror(new TreePath(getCurrentPath(), t));
    }

    private boolean isOwn(TypeMirror type) {
        return type.toString().startsWith("LongNoon");
    }

    /** The method that the place is in; null: a field's initialiser. */
    private ExecutableElement methodHere() {
        for (TreePath p = getCurrentPath(); p != null; p = p.getParentPath()) {
            if (p.getLeaf() instanceof MethodTree) {
                return (ExecutableElement) trees.getElement(p);
            }
        }
        return null;
    }

    // ---- classes, fields, methods

    @Override
    public Void visitImport(ImportTree t, Void v) {
        String name = t.getQualifiedIdentifier().toString();
        if (!Set.of("java.util.ArrayList", "java.util.List", "java.util.Iterator", "java.util.Arrays").contains(name)) {
            ruledOut(4, t, "import of " + name);
        }
        return null;
    }

    @Override
    public Void visitClass(ClassTree t, Void v) {
        classes++;
        Tree above = getCurrentPath().getParentPath().getLeaf();
        boolean inside = above instanceof ClassTree;
        if (!inside && above != unit) {
            ruledOut(2, t, "a class in a method");
        }
        if (inside && !elementOf(t).getModifiers().contains(Modifier.STATIC)) {
            ruledOut(2, t, t.getSimpleName() + " is not static");
        }
        if (classes > MOST_CLASSES) {
            ruledOut(11, t, "more than " + MOST_CLASSES + " classes");
        }
        int fields = 0;
        for (Tree member : t.getMembers()) {
            if (member instanceof VariableTree field && !isStatic(field)) {
                fields++;
            } else if (member instanceof BlockTree) {
                ruledOut(5, member, "a block in a class");
            }
        }
        if (fields > MOST_FIELDS) {
            ruledOut(11, t, fields + " fields");
        }
        return super.visitClass(t, v);
    }

    private static boolean isStatic(VariableTree t) {
        return t.getModifiers().getFlags().contains(Modifier.STATIC);
    }

    @Override
    public Void visitVariable(VariableTree t, Void v) {
        lookAtType(t, typeOf(t));
        if (isStatic(t)) {
            boolean isRow = typeOf(t).getKind() == TypeKind.ARRAY;
            if (!t.getModifiers().getFlags().contains(Modifier.FINAL)) {
                ruledOut(5, t, t.getName() + " is static and not final");
            }
            if (isRow && !(t.getInitializer() instanceof NewArrayTree row && row.getInitializers() != null)) {
                ruledOut(5, t, t.getName() + " is not written out");
            }
            if (!isRow && !typeOf(t).getKind().isPrimitive() && !typeOf(t).toString().equals("java.lang.String")) {
                ruledOut(5, t, t.getName() + " is static");
            }
        }
        return super.visitVariable(t, v);
    }

    private void lookAtType(Tree at, TypeMirror type) {
        TypeMirror part = type;
        int dimensions = 0;
        while (part instanceof ArrayType row) {
            part = row.getComponentType();
            dimensions++;
        }
        boolean isNumber = part.getKind().isPrimitive();
        boolean isKnown = isNumber || part.getKind() == TypeKind.VOID || isOwn(part)
            || OWN_KINDS.contains(part.toString());
        if (!isKnown || dimensions > (isNumber ? 2 : 1)) {
            ruledOut(3, at, "type " + type);
        }
        if (part.getKind() == TypeKind.FLOAT || part.getKind() == TypeKind.DOUBLE) {
            ruledOut(3, at, "the document asks for no " + part);
        }
    }

    @Override
    public Void visitMethod(MethodTree t, Void v) {
        ExecutableElement method = (ExecutableElement) elementOf(t);
        calls.putIfAbsent(method, new LinkedHashSet<>());
        if (t.getReturnType() != null) {
            lookAtType(t, typeOf(t.getReturnType()));
        }
        if (t.getParameters().size() > MOST_NUMBERS) {
            ruledOut(11, t, t.getName() + " takes " + t.getParameters().size());
        }
        long from = trees.getSourcePositions().getStartPosition(unit, t);
        long to = trees.getSourcePositions().getEndPosition(unit, t);
        if (to > from && lineOf(to) - lineOf(from) >= MOST_LINES) {
            ruledOut(11, t, t.getName() + " has " + (lineOf(to) - lineOf(from) + 1) + " lines");
        }
        if (!t.getThrows().isEmpty() || Set.of("equals", "hashCode", "toString").contains(t.getName().toString())) {
            ruledOut(6, t, t.getName().toString());
        }
        return super.visitMethod(t, v);
    }

    // ---- what stands in methods

    @Override
    public Void visitMethodInvocation(MethodInvocationTree t, Void v) {
        ExecutableElement called = (ExecutableElement) elementOf(t.getMethodSelect());
        TypeElement of = (TypeElement) called.getEnclosingElement();
        String name = called.getSimpleName().toString();
        if (isOwn(of.asType())) {
            ExecutableElement here = methodHere();
            if (here != null) {
                calls.computeIfAbsent(here, k -> new LinkedHashSet<>()).add(called);
            }
        } else if (!name.equals("<init>") && !inLibrary(of.getQualifiedName().toString(), name, t)) {
            ruledOut(4, t, of + "." + name);
        }
        return super.visitMethodInvocation(t, v);
    }

    private boolean inLibrary(String of, String name, MethodInvocationTree t) {
        switch (of) {
            case "java.lang.String":
                return STRING.contains(name)
                    && (!name.equals("indexOf") || typeOf(t.getArguments().get(0)).getKind() == TypeKind.CHAR);
            case "java.lang.StringBuilder": return BUILDER.contains(name);
            case "java.util.Arrays": return ARRAYS.contains(name);
            case "java.lang.System": return name.equals("arraycopy");
            case "java.lang.Math": case "java.lang.Integer": case "java.lang.Long": return !name.endsWith("Exact");
            default: return false;
        }
    }

    @Override
    public Void visitNewClass(NewClassTree t, Void v) {
        lookAtMaking(t, t.getIdentifier().toString());
        if (t.getClassBody() != null) {
            ruledOut(2, t, "a class without a name");
        }
        return super.visitNewClass(t, v);
    }

    @Override
    public Void visitNewArray(NewArrayTree t, Void v) {
        lookAtMaking(t, "an array");
        return super.visitNewArray(t, v);
    }

    /** All is made by constructors and fields, so that what a run makes does not grow with its calls. */
    private void lookAtMaking(Tree t, String what) {
        ExecutableElement here = methodHere();
        if (here != null && here.getKind() != ElementKind.CONSTRUCTOR) {
            ruledOut(12, t, here + " makes " + what);
        }
    }

    @Override
    public Void visitBinary(BinaryTree t, Void v) {
        boolean isText = !typeOf(t.getLeftOperand()).getKind().isPrimitive()
            && !isOwn(typeOf(t.getLeftOperand())) && typeOf(t.getLeftOperand()).getKind() == TypeKind.DECLARED;
        if (t.getKind() == Tree.Kind.PLUS && !typeOf(t).getKind().isPrimitive()) {
            ruledOut(10, t, "texts joined by +");
        }
        if ((t.getKind() == Tree.Kind.EQUAL_TO || t.getKind() == Tree.Kind.NOT_EQUAL_TO) && isText) {
            ruledOut(6, t, "== between " + typeOf(t.getLeftOperand()));
        }
        return super.visitBinary(t, v);
    }

    @Override
    public Void visitTypeCast(TypeCastTree t, Void v) {
        if (!typeOf(t.getType()).getKind().isPrimitive()) {
            ruledOut(6, t, "cast to " + t.getType());
        }
        return super.visitTypeCast(t, v);
    }

    @Override
    public Void visitAssignment(AssignmentTree t, Void v) {
        lookAtRow(t, t.getVariable());
        return super.visitAssignment(t, v);
    }

    @Override
    public Void visitCompoundAssignment(CompoundAssignmentTree t, Void v) {
        lookAtRow(t, t.getVariable());
        return super.visitCompoundAssignment(t, v);
    }

    /** A static row is never changed. */
    private void lookAtRow(Tree at, ExpressionTree changed) {
        if (changed instanceof ArrayAccessTree item) {
            Element row = elementOf(item.getExpression());
            if (row != null && row.getModifiers().contains(Modifier.STATIC)) {
                ruledOut(5, at, row + " is changed");
            }
        }
    }

    @Override
    public Void visitForLoop(ForLoopTree t, Void v) {
        if (t.getCondition() == null || t.getCondition() instanceof LiteralTree) {
            ruledOut(9, t, "a loop without an end");
        }
        return super.visitForLoop(t, v);
    }

    @Override
    public Void visitWhileLoop(WhileLoopTree t, Void v) {
        if (((ParenthesizedTree) t.getCondition()).getExpression() instanceof LiteralTree) {
            ruledOut(9, t, "a loop without an end");
        }
        return super.visitWhileLoop(t, v);
    }

    @Override
    public Void visitLiteral(LiteralTree t, Void v) {
        if (t.getValue() instanceof String text && !text.chars().allMatch(c -> c >= 1 && c <= 127)) {
            ruledOut(4, t, "a text's sign");
        }
        return null;
    }

    // ---- what has no place at all

    @Override
    public Void scan(Tree t, Void v) {
        if (t != null) {
            switch (t.getKind()) {
                case LAMBDA_EXPRESSION: case MEMBER_REFERENCE:
                    ruledOut(2, t, t.getKind().toString());
                    break;
                case THROW: case TRY: case SYNCHRONIZED: case ASSERT:
                    ruledOut(6, t, t.getKind().toString());
                    break;
                default:
                    break;
            }
        }
        return super.scan(t, v);
    }

    // ---- who calls whom

    private void lookAtCalls() {
        for (ExecutableElement method : calls.keySet()) {
            if (reached(method).contains(method) && !method.getModifiers().contains(Modifier.PRIVATE)) {
                ruledOut(8, trees.getTree(method), method + " calls itself and is not private");
            }
            int deep = depth(method, new HashSet<>());
            if (deep > MOST_DEEP) {
                ruledOut(11, trees.getTree(method), method + " goes " + deep + " deep");
            }
        }
    }

    private Set<ExecutableElement> reached(ExecutableElement from) {
        Set<ExecutableElement> all = new LinkedHashSet<>();
        List<ExecutableElement> open = new ArrayList<>(List.of(from));
        while (!open.isEmpty()) {
            for (ExecutableElement next : calls.getOrDefault(open.remove(0), Set.of())) {
                if (all.add(next)) {
                    open.add(next);
                }
            }
        }
        return all;
    }

    /** How many calls can stand open at once, no method twice. */
    private int depth(ExecutableElement method, Set<ExecutableElement> open) {
        if (!open.add(method)) {
            return 0;
        }
        int deepest = 0;
        for (ExecutableElement next : calls.getOrDefault(method, Set.of())) {
            deepest = Math.max(deepest, depth(next, open));
        }
        open.remove(method);
        return deepest + 1;
    }
}
