import com.sun.source.tree.AssertTree;
import com.sun.source.tree.BinaryTree;
import com.sun.source.tree.BlockTree;
import com.sun.source.tree.ClassTree;
import com.sun.source.tree.CompilationUnitTree;
import com.sun.source.tree.CompoundAssignmentTree;
import com.sun.source.tree.LambdaExpressionTree;
import com.sun.source.tree.MemberReferenceTree;
import com.sun.source.tree.MethodInvocationTree;
import com.sun.source.tree.MethodTree;
import com.sun.source.tree.NewClassTree;
import com.sun.source.tree.SynchronizedTree;
import com.sun.source.tree.ThrowTree;
import com.sun.source.tree.Tree;
import com.sun.source.tree.TryTree;
import com.sun.source.tree.VariableTree;
import com.sun.source.util.JavacTask;
import com.sun.source.util.TreePath;
import com.sun.source.util.TreePathScanner;
import com.sun.source.util.Trees;
import java.io.IOException;
import java.nio.file.Path;
import java.util.ArrayList;
import java.util.LinkedHashMap;
import java.util.LinkedHashSet;
import java.util.List;
import java.util.Map;
import java.util.Set;
import javax.lang.model.element.Element;
import javax.lang.model.element.ElementKind;
import javax.lang.model.element.ExecutableElement;
import javax.lang.model.element.Modifier;
import javax.lang.model.type.ArrayType;
import javax.lang.model.type.TypeKind;
import javax.lang.model.type.TypeMirror;
import javax.tools.JavaCompiler;
import javax.tools.StandardJavaFileManager;
import javax.tools.ToolProvider;

/** The rules of LANGUAGE.md that javac's own tree of the source can tell: types, library, fields, sizes, depth of calls. */
public final class RulesTest extends TreePathScanner<Void, Void> {
    private static final Path SOURCE = Path.of("src/main/java/NextDoorBrides.java");
    /* Of rule 4, what the class has use for; whoever needs more of the list puts it here. */
    private static final Set<String> LIBRARY = Set.of(
        "java.lang.String.length", "java.lang.String.charAt", "java.lang.String.isEmpty", "java.lang.String.equals",
        "java.lang.String.indexOf", "java.lang.String.substring", "java.lang.String.toCharArray",
        "java.lang.Math.max", "java.lang.Math.min", "java.lang.Math.abs", "java.lang.Math.floorDiv",
        "java.lang.Math.floorMod", "java.lang.Integer.bitCount", "java.lang.Integer.compare",
        "java.lang.System.arraycopy", "java.util.Arrays.fill", "java.util.Arrays.copyOf", "java.util.Arrays.copyOfRange",
        "java.lang.Object.<init>");
    private static final int MOST_DEEP = 8;

    private final Trees trees;
    private final CompilationUnitTree unit;
    private final Map<Element, Set<Element>> calls = new LinkedHashMap<>();
    private int classes = 0;

    private RulesTest(Trees trees, CompilationUnitTree unit) {
        this.trees = trees;
        this.unit = unit;
    }

    public static void main(String[] args) throws IOException {
        JavaCompiler compiler = ToolProvider.getSystemJavaCompiler();
        try (StandardJavaFileManager files = compiler.getStandardFileManager(null, null, null)) {
            JavacTask task = (JavacTask) compiler.getTask(null, files, null, List.of("-proc:none"), null,
                files.getJavaFileObjects(SOURCE));
            CompilationUnitTree unit = task.parse().iterator().next();
            task.analyze();
            RulesTest rules = new RulesTest(Trees.instance(task), unit);
            rules.scan(unit, null);
            rules.classesAreFew();
            rules.callsAreShallow();
        }
        Due.finish();
    }

    private Element element(Tree tree) {
        return trees.getElement(TreePath.getPath(unit, tree));
    }

    private String at(Tree tree) {
        long place = trees.getSourcePositions().getStartPosition(unit, tree);
        return "line " + unit.getLineMap().getLineNumber(place) + ": ";
    }

    private int lines(Tree tree) {
        long first = trees.getSourcePositions().getStartPosition(unit, tree);
        long last = trees.getSourcePositions().getEndPosition(unit, tree);
        return (int) (unit.getLineMap().getLineNumber(last) - unit.getLineMap().getLineNumber(first)) + 1;
    }

    private void refuse(String rule, Tree tree) {
        Due.no(at(tree) + rule, true);
    }

    @Override
    public Void visitClass(ClassTree tree, Void none) {
        classes++;
        Element type = element(tree);
        boolean outer = getCurrentPath().getParentPath().getLeaf() == unit;
        boolean inside = getCurrentPath().getParentPath().getLeaf() instanceof ClassTree;
        Due.yes(at(tree) + "rule 2: a class stands in the class, and is static",
            outer || inside && type.getModifiers().contains(Modifier.STATIC));
        int fields = 0;
        for (Tree member : tree.getMembers()) {
            if (member instanceof BlockTree) {
                refuse("rule 5: no initialiser block", member);
            }
            if (member instanceof VariableTree field && !element(field).getModifiers().contains(Modifier.STATIC)) {
                fields++;
            }
        }
        Due.yes(at(tree) + "rule 11: some twenty fields, not " + fields, fields <= 20);
        return super.visitClass(tree, none);
    }

    @Override
    public Void visitVariable(VariableTree tree, Void none) {
        Element variable = element(tree);
        Due.yes(at(tree) + "rule 3: the type " + variable.asType(), isKnown(variable.asType()));
        if (variable.getKind() == ElementKind.FIELD && variable.getModifiers().contains(Modifier.STATIC)) {
            Due.yes(at(tree) + "rule 5: a static field is final", variable.getModifiers().contains(Modifier.FINAL));
            boolean written = tree.getInitializer() != null && tree.getInitializer().getKind() == Tree.Kind.NEW_ARRAY;
            boolean plain = variable.asType().getKind().isPrimitive() || variable.asType().toString().equals("java.lang.String");
            Due.yes(at(tree) + "rule 5: a constant, or an array that is written out", written || plain);
        }
        return super.visitVariable(tree, none);
    }

    private boolean isKnown(TypeMirror type) {
        if (type.getKind() == TypeKind.ARRAY) {
            TypeMirror part = ((ArrayType) type).getComponentType();
            boolean two = part.getKind() == TypeKind.ARRAY;
            return two ? ((ArrayType) part).getComponentType().getKind().isPrimitive() : isKnown(part);
        }
        String name = type.toString();
        return type.getKind().isPrimitive() || type.getKind() == TypeKind.VOID || name.equals("java.lang.String")
            || name.equals("java.lang.StringBuilder") || name.startsWith("NextDoorBrides");
    }

    @Override
    public Void visitMethod(MethodTree tree, Void none) {
        ExecutableElement method = (ExecutableElement) element(tree);
        calls.computeIfAbsent(method, m -> new LinkedHashSet<>());
        Due.yes(at(tree) + "rule 3: the type " + method.getReturnType(), isKnown(method.getReturnType()));
        Due.yes(at(tree) + "rule 11: seven parameters at most", tree.getParameters().size() <= 7);
        Due.yes(at(tree) + "rule 11: some sixty lines, not " + lines(tree), lines(tree) <= 60);
        return super.visitMethod(tree, none);
    }

    private void call(Element called, Tree tree) {
        String owner = called.getEnclosingElement().toString();
        if (!owner.startsWith("NextDoorBrides")) {
            String name = owner + "." + called.getSimpleName();
            Due.yes(at(tree) + "rule 4: the library's " + name, LIBRARY.contains(name));
            return;
        }
        for (TreePath path = getCurrentPath(); path != null; path = path.getParentPath()) {
            if (path.getLeaf() instanceof MethodTree caller) {
                calls.computeIfAbsent(element(caller), m -> new LinkedHashSet<>()).add(called);
                return;
            }
        }
    }

    @Override
    public Void visitMethodInvocation(MethodInvocationTree tree, Void none) {
        call(element(tree), tree);
        return super.visitMethodInvocation(tree, none);
    }

    @Override
    public Void visitNewClass(NewClassTree tree, Void none) {
        Due.yes(at(tree) + "rule 2: no anonymous class", tree.getClassBody() == null);
        call(element(tree), tree);
        return super.visitNewClass(tree, none);
    }

    @Override
    public Void visitBinary(BinaryTree tree, Void none) {
        boolean compares = tree.getKind() == Tree.Kind.EQUAL_TO || tree.getKind() == Tree.Kind.NOT_EQUAL_TO;
        boolean texts = isText(tree.getLeftOperand()) || isText(tree.getRightOperand());
        Due.no(at(tree) + "rule 6: == between texts", compares && texts);
        Due.no(at(tree) + "rule 10: texts joined by +", tree.getKind() == Tree.Kind.PLUS && texts);
        return super.visitBinary(tree, none);
    }

    private boolean isText(Tree tree) {
        TypeMirror type = trees.getTypeMirror(TreePath.getPath(unit, tree));
        return type != null && type.toString().equals("java.lang.String");
    }

    @Override
    public Void visitCompoundAssignment(CompoundAssignmentTree tree, Void none) {
        Due.no(at(tree) + "rule 10: texts joined by +=", isText(tree.getVariable()));
        return super.visitCompoundAssignment(tree, none);
    }

    @Override
    public Void visitLambdaExpression(LambdaExpressionTree tree, Void none) {
        refuse("rule 2: no lambda", tree);
        return super.visitLambdaExpression(tree, none);
    }

    @Override
    public Void visitMemberReference(MemberReferenceTree tree, Void none) {
        refuse("rule 2: no method reference", tree);
        return super.visitMemberReference(tree, none);
    }

    @Override
    public Void visitThrow(ThrowTree tree, Void none) {
        refuse("rule 6: no throw", tree);
        return super.visitThrow(tree, none);
    }

    @Override
    public Void visitTry(TryTree tree, Void none) {
        refuse("rule 6: no try", tree);
        return super.visitTry(tree, none);
    }

    @Override
    public Void visitSynchronized(SynchronizedTree tree, Void none) {
        refuse("rule 6: no synchronized", tree);
        return super.visitSynchronized(tree, none);
    }

    @Override
    public Void visitAssert(AssertTree tree, Void none) {
        refuse("rule 6: no assert", tree);
        return super.visitAssert(tree, none);
    }

    private void classesAreFew() {
        Due.yes("rule 11: some twelve classes, not " + classes, classes <= 12);
    }

    /** Each way from call to call on which none is called twice: what comes again is recursion. */
    private void callsAreShallow() {
        List<Element> longest = new ArrayList<>();
        for (Element method : calls.keySet()) {
            goDown(method, new ArrayList<>(), longest);
        }
        Due.yes("rule 11: calls go " + longest.size() + " deep: " + longest, longest.size() <= MOST_DEEP);
        Due.yes("the calls were found", longest.size() > 2 && calls.size() > 100);
    }

    private void goDown(Element method, List<Element> way, List<Element> longest) {
        if (way.contains(method)) {
            return;
        }
        way.add(method);
        if (way.size() > longest.size()) {
            longest.clear();
            longest.addAll(way);
        }
        for (Element called : calls.getOrDefault(method, Set.of())) {
            goDown(called, way, longest);
        }
        way.remove(way.size() - 1);
    }
}
