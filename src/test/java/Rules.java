import com.sun.source.tree.BinaryTree;
import com.sun.source.tree.BlockTree;
import com.sun.source.tree.ClassTree;
import com.sun.source.tree.CompilationUnitTree;
import com.sun.source.tree.CompoundAssignmentTree;
import com.sun.source.tree.DoWhileLoopTree;
import com.sun.source.tree.ExpressionTree;
import com.sun.source.tree.ForLoopTree;
import com.sun.source.tree.LiteralTree;
import com.sun.source.tree.MethodInvocationTree;
import com.sun.source.tree.MethodTree;
import com.sun.source.tree.NewArrayTree;
import com.sun.source.tree.NewClassTree;
import com.sun.source.tree.Tree;
import com.sun.source.tree.VariableTree;
import com.sun.source.tree.WhileLoopTree;
import com.sun.source.util.JavacTask;
import com.sun.source.util.SourcePositions;
import com.sun.source.util.TreePath;
import com.sun.source.util.TreePathScanner;
import com.sun.source.util.Trees;
import java.io.IOException;
import java.nio.file.Path;
import java.util.ArrayList;
import java.util.HashMap;
import java.util.HashSet;
import java.util.LinkedHashSet;
import java.util.List;
import java.util.Map;
import java.util.Set;
import javax.lang.model.element.Element;
import javax.lang.model.element.ElementKind;
import javax.lang.model.element.ExecutableElement;
import javax.lang.model.element.Modifier;
import javax.lang.model.element.VariableElement;
import javax.lang.model.type.ArrayType;
import javax.lang.model.type.TypeKind;
import javax.lang.model.type.TypeMirror;
import javax.tools.JavaCompiler;
import javax.tools.StandardJavaFileManager;
import javax.tools.ToolProvider;

/** Reads a file as the compiler does and tells where it leaves LANGUAGE.md, by the rule's number and the line. */
final class Rules extends TreePathScanner<Void, Void> {
    private static final int MOST_CALLS_DEEP = 8;
    private static final int MOST_PARAMETERS = 7;
    private static final int MOST_LINES = 60;
    private static final int MOST_CLASSES = 12;
    private static final int MOST_FIELDS = 20;
    private static final int LAST_SIGN = 127;
    /** What the program may call of the library; as much of rule 4 as it needs. */
    private static final Set<String> LIBRARY =
        Set.of("String.indexOf(int)", "Math.max(int,int)", "Integer.bitCount(int)");

    /** What may stand nowhere, and the rule that says so. */
    private static final Map<Tree.Kind, Integer> RULED_OUT = Map.of(
        Tree.Kind.LAMBDA_EXPRESSION, 2, Tree.Kind.MEMBER_REFERENCE, 2, Tree.Kind.IMPORT, 4, Tree.Kind.THROW, 6,
        Tree.Kind.TRY, 6, Tree.Kind.CATCH, 6, Tree.Kind.SYNCHRONIZED, 6, Tree.Kind.ASSERT, 6);

    private final List<String> faults = new ArrayList<>();
    private final Map<Element, Set<Element>> calls = new HashMap<>();
    private final Set<Element> openCalls = new LinkedHashSet<>();
    private final CompilationUnitTree unit;
    private final Trees trees;
    private final SourcePositions positions;
    private int classes = 0;

    private Rules(JavacTask task, CompilationUnitTree unit) {
        this.unit = unit;
        this.trees = Trees.instance(task);
        this.positions = trees.getSourcePositions();
    }

    static List<String> faultsOf(Path file) throws IOException {
        JavaCompiler compiler = ToolProvider.getSystemJavaCompiler();
        try (StandardJavaFileManager files = compiler.getStandardFileManager(null, null, null)) {
            JavacTask task =
                (JavacTask) compiler.getTask(null, files, null, null, null, files.getJavaFileObjects(file));
            Rules rules = new Rules(task, task.parse().iterator().next());
            task.analyze();
            rules.lookAtAll();
            return rules.faults;
        }
    }

    private void lookAtAll() {
        scan(unit, null);
        for (Element open : openCalls) {
            int deep = deepestFrom(open, new HashSet<>());
            if (deep > MOST_CALLS_DEEP) {
                faults.add("rules 8, 11: calls " + deep + " deep from " + open);
            }
        }
        must(classes <= MOST_CLASSES, 11, "so many classes: " + classes, unit);
    }

    private void must(boolean holds, int rule, String what, Tree where) {
        if (!holds) {
            faults.add("rule " + rule + ", line " + lineOf(positions.getStartPosition(unit, where)) + ": " + what);
        }
    }

    private long lineOf(long position) {
        return unit.getLineMap().getLineNumber(position);
    }

    /** How many calls stand open at once; recursion, of which the program needs none, is told as too many. */
    private int deepestFrom(Element from, Set<Element> open) {
        if (!open.add(from)) {
            return MOST_CALLS_DEEP + 1;
        }
        int deepest = 0;
        for (Element called : calls.getOrDefault(from, Set.of())) {
            deepest = Math.max(deepest, deepestFrom(called, open));
        }
        open.remove(from);
        return deepest + 1;
    }

    private Element here() {
        return trees.getElement(getCurrentPath());
    }

    private static boolean isOwn(Element element) {
        Element outer = element;
        while (outer.getEnclosingElement().getKind() != ElementKind.PACKAGE) {
            outer = outer.getEnclosingElement();
        }
        return outer.getSimpleName().contentEquals("OneFromEachLane");
    }

    private MethodTree enclosingMethod() {
        for (TreePath path = getCurrentPath(); path != null; path = path.getParentPath()) {
            if (path.getLeaf() instanceof MethodTree method) {
                return method;
            }
        }
        return null;
    }

    private static boolean isConstructor(MethodTree method) {
        return method.getReturnType() == null;
    }

    private boolean isString(ExpressionTree tree) {
        return String.valueOf(trees.getTypeMirror(new TreePath(getCurrentPath(), tree))).equals("java.lang.String");
    }

    // Rules 1, 2 and 6

    @Override
    public Void scan(Tree tree, Void none) {
        if (tree != null && RULED_OUT.containsKey(tree.getKind())) {
            must(false, RULED_OUT.get(tree.getKind()), tree.getKind().toString(), tree);
        }
        return super.scan(tree, none);
    }

    @Override
    public Void visitClass(ClassTree tree, Void none) {
        classes++;
        Element type = here();
        boolean isInside = type.getEnclosingElement().getKind().isClass();
        boolean isOutermost = getCurrentPath().getParentPath().getLeaf() == unit;
        must(isInside || isOutermost, 2, "a local or anonymous class", tree);
        must(isOutermost || type.getModifiers().contains(Modifier.STATIC), 2, "not static", tree);
        must(isOutermost || !type.getModifiers().contains(Modifier.PUBLIC), 1, "a public class inside", tree);
        must(isOutermost || !type.getModifiers().contains(Modifier.PROTECTED), 1, "a protected class inside", tree);
        int fields = 0;
        for (Element member : type.getEnclosedElements()) {
            fields += member.getKind() == ElementKind.FIELD && !member.getModifiers().contains(Modifier.STATIC) ? 1 : 0;
        }
        must(fields <= MOST_FIELDS, 11, "so many fields: " + fields, tree);
        return super.visitClass(tree, none);
    }

    // Rules 3 and 5

    @Override
    public Void visitVariable(VariableTree tree, Void none) {
        Element variable = here();
        must(isAllowed(variable.asType()), 3, "the type of " + tree, tree);
        if (variable.getModifiers().contains(Modifier.STATIC)) {
            must(variable.getModifiers().contains(Modifier.FINAL), 5, "static, not final: " + tree, tree);
            must(((VariableElement) variable).getConstantValue() != null, 5, "static, no constant: " + tree, tree);
        }
        return super.visitVariable(tree, none);
    }

    private static boolean isAllowed(TypeMirror type) {
        if (type.getKind() == TypeKind.ARRAY) {
            TypeMirror part = ((ArrayType) type).getComponentType();
            TypeMirror number = part.getKind() == TypeKind.ARRAY ? ((ArrayType) part).getComponentType() : part;
            return number.getKind().isPrimitive();
        }
        String name = type.toString();
        return type.getKind().isPrimitive() || type.getKind() == TypeKind.VOID || name.equals("java.lang.String")
            || name.equals("java.lang.StringBuilder") || name.startsWith("OneFromEachLane.");
    }

    @Override
    public Void visitBlock(BlockTree tree, Void none) {
        must(!(getCurrentPath().getParentPath().getLeaf() instanceof ClassTree), 5, "an initialiser's block", tree);
        return super.visitBlock(tree, none);
    }

    // Rules 4, 8 and 12

    @Override
    public Void visitMethodInvocation(MethodInvocationTree tree, Void none) {
        if (!tree.getMethodSelect().toString().equals("super")) {
            lookAtCall(tree, here(), enclosingMethod());
        }
        return super.visitMethodInvocation(tree, none);
    }

    private void lookAtCall(MethodInvocationTree tree, Element called, MethodTree within) {
        String name = called.getEnclosingElement().getSimpleName() + "." + called;
        must(isOwn(called) || LIBRARY.contains(name), 4, "calls " + name, tree);
        must(within != null, 12, "called as an object is made: " + name, tree);
        if (within != null) {
            Element caller = trees.getElement(TreePath.getPath(unit, within));
            calls.computeIfAbsent(caller, anew -> new LinkedHashSet<>()).add(called);
        }
    }

    @Override
    public Void visitNewClass(NewClassTree tree, Void none) {
        must(isOwn(here()), 4, "makes " + tree, tree);
        must(enclosingMethod() == null || isConstructor(enclosingMethod()), 12, "made by a call: " + tree, tree);
        return super.visitNewClass(tree, none);
    }

    @Override
    public Void visitNewArray(NewArrayTree tree, Void none) {
        must(enclosingMethod() == null || isConstructor(enclosingMethod()), 12, "made by a call: " + tree, tree);
        return super.visitNewArray(tree, none);
    }

    // Rule 9

    private void looksAtEnd(ExpressionTree condition, Tree loop) {
        must(condition != null && !condition.toString().matches("\\(?true\\)?"), 9, "a loop without an end", loop);
    }

    @Override
    public Void visitForLoop(ForLoopTree tree, Void none) {
        looksAtEnd(tree.getCondition(), tree);
        return super.visitForLoop(tree, none);
    }

    @Override
    public Void visitWhileLoop(WhileLoopTree tree, Void none) {
        looksAtEnd(tree.getCondition(), tree);
        return super.visitWhileLoop(tree, none);
    }

    @Override
    public Void visitDoWhileLoop(DoWhileLoopTree tree, Void none) {
        looksAtEnd(tree.getCondition(), tree);
        return super.visitDoWhileLoop(tree, none);
    }

    // Rule 10, and the constants of rule 4

    @Override
    public Void visitBinary(BinaryTree tree, Void none) {
        boolean ofStrings = isString(tree.getLeftOperand()) || isString(tree.getRightOperand());
        must(!ofStrings, tree.getKind() == Tree.Kind.PLUS ? 10 : 6, "two texts: " + tree, tree);
        return super.visitBinary(tree, none);
    }

    @Override
    public Void visitCompoundAssignment(CompoundAssignmentTree tree, Void none) {
        must(!isString(tree.getVariable()), 10, "joins by +=: " + tree, tree);
        return super.visitCompoundAssignment(tree, none);
    }

    @Override
    public Void visitLiteral(LiteralTree tree, Void none) {
        if (tree.getValue() instanceof String text) {
            must(text.chars().allMatch(sign -> sign > 0 && sign <= LAST_SIGN), 4, "a sign beyond 127", tree);
        }
        return super.visitLiteral(tree, none);
    }

    // Rules 1, 3, 6 and 11

    @Override
    public Void visitMethod(MethodTree tree, Void none) {
        Element method = here();
        if (method.getModifiers().contains(Modifier.PUBLIC)) {
            openCalls.add(method);
        }
        must(isAllowed(((ExecutableElement) method).getReturnType()), 3, "the type of " + tree.getName(), tree);
        must(tree.getThrows().isEmpty(), 6, "throws: " + tree.getName(), tree);
        must(!method.getModifiers().contains(Modifier.SYNCHRONIZED), 6, "synchronized: " + tree.getName(), tree);
        must(tree.getParameters().size() <= MOST_PARAMETERS, 11, "so many parameters: " + tree.getName(), tree);
        long first = lineOf(positions.getStartPosition(unit, tree));
        long last = lineOf(positions.getEndPosition(unit, tree));
        must(last - first < MOST_LINES, 11, "so many lines: " + tree.getName(), tree);
        return super.visitMethod(tree, none);
    }
}
