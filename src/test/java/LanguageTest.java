import com.sun.source.tree.AssertTree;
import com.sun.source.tree.BinaryTree;
import com.sun.source.tree.BlockTree;
import com.sun.source.tree.ClassTree;
import com.sun.source.tree.CompilationUnitTree;
import com.sun.source.tree.DoWhileLoopTree;
import com.sun.source.tree.ExpressionTree;
import com.sun.source.tree.ForLoopTree;
import com.sun.source.tree.LambdaExpressionTree;
import com.sun.source.tree.MemberReferenceTree;
import com.sun.source.tree.MethodInvocationTree;
import com.sun.source.tree.MethodTree;
import com.sun.source.tree.NewArrayTree;
import com.sun.source.tree.NewClassTree;
import com.sun.source.tree.SynchronizedTree;
import com.sun.source.tree.ThrowTree;
import com.sun.source.tree.Tree;
import com.sun.source.tree.TryTree;
import com.sun.source.tree.VariableTree;
import com.sun.source.tree.WhileLoopTree;
import com.sun.source.util.JavacTask;
import com.sun.source.util.SourcePositions;
import com.sun.source.util.TreePath;
import com.sun.source.util.TreePathScanner;
import com.sun.source.util.Trees;
import java.nio.file.Path;
import java.util.List;
import java.util.Map;
import java.util.Set;
import java.util.TreeMap;
import java.util.TreeSet;
import javax.lang.model.element.Element;
import javax.lang.model.element.ElementKind;
import javax.lang.model.element.Modifier;
import javax.lang.model.type.TypeKind;
import javax.lang.model.type.TypeMirror;
import javax.tools.JavaCompiler;
import javax.tools.StandardJavaFileManager;
import javax.tools.ToolProvider;

/** Rules of LANGUAGE.md, held against the program as the compiler reads it. */
public final class LanguageTest extends TreePathScanner<Void, Void> {
    private static final Due due = new Due("LanguageTest");
    private static final Set<String> LIBRARY = Set.of("java.lang.String.charAt", "java.lang.String.indexOf", "java.lang.Math.max", "java.lang.Math.min",
        "java.lang.Math.abs", "java.lang.System.arraycopy");
    private static final Set<TypeKind> NUMBERS = Set.of(TypeKind.INT, TypeKind.LONG, TypeKind.SHORT, TypeKind.CHAR, TypeKind.BYTE, TypeKind.BOOLEAN);
    private static final int MOST_PARAMETERS = 7, MOST_LINES = 60, MOST_CLASSES = 12, MOST_FIELDS = 20, MOST_DEEP = 8;

    /** Divisors that the lines ahead of them look at; one more is to be read by hand, and put here. */
    private static final Set<String> LOOKED_AT = Set.of("(far * far)", "tons", "light", "right");

    private final Trees trees;
    private final CompilationUnitTree unit;
    /** Each method with those that it calls. */
    private final Map<String, Set<String>> calls = new TreeMap<>();
    private final Set<String> hidden = new TreeSet<>();
    private int classes;
    private String method;
    private boolean making;

    private LanguageTest(Trees trees, CompilationUnitTree unit) {
        this.trees = trees;
        this.unit = unit;
    }

    public static void main(String[] args) throws Exception {
        JavaCompiler compiler = ToolProvider.getSystemJavaCompiler();
        try (StandardJavaFileManager files = compiler.getStandardFileManager(null, null, null)) {
            JavacTask task = (JavacTask) compiler.getTask(null, files, null, List.of("-proc:none"), null, files.getJavaFileObjects(Path.of("src/main/java/RockTugs.java")));
            CompilationUnitTree unit = task.parse().iterator().next();
            task.analyze();
            LanguageTest test = new LanguageTest(Trees.instance(task), unit);
            test.scan(unit, null);
            test.asAWhole();
        }
        due.end();
    }

    private void no(String what, Tree tree) {
        due.is(what + " in line " + line(tree), 1, 0);
    }

    private void yes(String what, boolean holds, Tree tree) {
        due.is(what + " in line " + line(tree), holds ? 1 : 0, 1);
    }

    private long line(Tree tree) {
        return unit.getLineMap().getLineNumber(trees.getSourcePositions().getStartPosition(unit, tree));
    }

    private Element element() {
        return trees.getElement(getCurrentPath());
    }

    private TypeMirror type(Tree tree) {
        return trees.getTypeMirror(new TreePath(getCurrentPath(), tree));
    }

    private static boolean isOwn(String name) {
        return name.equals("RockTugs") || name.startsWith("RockTugs.");
    }

    private void asAWhole() {
        due.is("imports", unit.getImports().size(), 0);
        due.is("a package line", unit.getPackageName() == null ? 0 : 1, 0);
        due.is("classes: " + classes, classes <= MOST_CLASSES ? 1 : 0, 1);
        Map<String, Set<String>> reached = new TreeMap<>();
        for (String one : calls.keySet()) {
            Set<String> all = new TreeSet<>();
            reach(one, all);
            reached.put(one, all);
        }
        for (String one : calls.keySet()) {
            if (reached.get(one).contains(one)) due.is("recursion among private ones alone: " + one, hidden.contains(one) ? 1 : 0, 1);
        }
        for (String one : calls.keySet()) due.is("eight deep at most: " + one, deep(one, reached) <= MOST_DEEP ? 1 : 0, 1);
    }

    private void reach(String from, Set<String> all) {
        for (String next : calls.getOrDefault(from, Set.of())) {
            if (all.add(next)) reach(next, all);
        }
    }

    /** How many methods stand open at most, those that call one another counted as one. */
    private int deep(String from, Map<String, Set<String>> reached) {
        Set<String> circle = new TreeSet<>(Set.of(from));
        for (String one : reached.getOrDefault(from, Set.of())) {
            if (reached.getOrDefault(one, Set.of()).contains(from)) circle.add(one);
        }
        int most = 0;
        for (String one : circle) {
            for (String next : calls.getOrDefault(one, Set.of())) {
                if (!circle.contains(next)) most = Math.max(most, deep(next, reached));
            }
        }
        return 1 + most;
    }

    @Override
    public Void visitClass(ClassTree tree, Void none) {
        classes++;
        ElementKind around = element().getEnclosingElement().getKind();
        yes("no local class", around == ElementKind.PACKAGE || around == ElementKind.CLASS, tree);
        yes("final", tree.getModifiers().getFlags().contains(Modifier.FINAL), tree);
        int fields = 0;
        for (Tree member : tree.getMembers()) {
            if (member instanceof BlockTree) no("initialiser block", member);
            if (member instanceof VariableTree field && !field.getModifiers().getFlags().contains(Modifier.STATIC)) fields++;
        }
        yes(fields + " fields", fields <= MOST_FIELDS, tree);
        making = true;
        method = tree.getSimpleName() + " as it is made";
        return super.visitClass(tree, none);
    }

    @Override
    public Void visitMethod(MethodTree tree, Void none) {
        String before = method;
        boolean wasMaking = making;
        method = named(element());
        making = tree.getReturnType() == null;
        calls.putIfAbsent(method, new TreeSet<>());
        if (tree.getModifiers().getFlags().contains(Modifier.PRIVATE)) hidden.add(method);
        SourcePositions at = trees.getSourcePositions();
        long lines = unit.getLineMap().getLineNumber(at.getEndPosition(unit, tree)) - line(tree) + 1;
        yes(method + " has " + lines + " lines", lines <= MOST_LINES, tree);
        yes(method + " takes seven at most", tree.getParameters().size() <= MOST_PARAMETERS, tree);
        yes(method + " throws nothing", tree.getThrows().isEmpty(), tree);
        super.visitMethod(tree, none);
        method = before;
        making = wasMaking;
        return null;
    }

    private static String named(Element element) {
        return element.getEnclosingElement() + "." + element;
    }

    @Override
    public Void visitVariable(VariableTree tree, Void none) {
        Set<Modifier> flags = tree.getModifiers().getFlags();
        Element variable = element();
        if (variable.getKind() == ElementKind.FIELD) {
            boolean isStatic = flags.contains(Modifier.STATIC);
            yes("a static field is final", !isStatic || flags.contains(Modifier.FINAL), tree);
            yes("a static field is a number or a text", !isStatic || NUMBERS.contains(variable.asType().getKind()) || variable.asType().toString().equals("java.lang.String"), tree);
        }
        yes("a type of LANGUAGE.md: " + variable.asType(), isAllowed(variable.asType().toString()), tree);
        return super.visitVariable(tree, none);
    }

    private static boolean isAllowed(String type) {
        if (type.equals("java.lang.String")) return true;
        if (type.matches("(int|long|short|byte|char|boolean)(\\[\\]){0,2}")) return true;
        return type.matches("RockTugs(\\.\\w+)?(\\[\\])?");
    }

    @Override
    public Void visitMethodInvocation(MethodInvocationTree tree, Void none) {
        Element called = trees.getElement(new TreePath(getCurrentPath(), tree.getMethodSelect()));
        String owner = called.getEnclosingElement().toString();
        // each constructor begins with a call of Object's, which is not written
        if (called.getKind() == ElementKind.CONSTRUCTOR) return null;
        String name = owner + "." + called.getSimpleName();
        if (!isOwn(owner)) yes("a call of LANGUAGE.md: " + name, LIBRARY.contains(name), tree);
        if (name.equals("java.lang.String.indexOf")) yes("indexOf(char)", type(tree.getArguments().get(0)).getKind() == TypeKind.CHAR, tree);
        calls.computeIfAbsent(method, key -> new TreeSet<>()).add(named(called));
        return super.visitMethodInvocation(tree, none);
    }

    @Override
    public Void visitNewClass(NewClassTree tree, Void none) {
        yes("objects of own classes, made in constructors", making && isOwn(type(tree.getIdentifier()).toString()) && tree.getClassBody() == null, tree);
        return super.visitNewClass(tree, none);
    }

    @Override
    public Void visitNewArray(NewArrayTree tree, Void none) {
        yes("arrays are made in constructors", making, tree);
        return super.visitNewArray(tree, none);
    }

    @Override
    public Void visitBinary(BinaryTree tree, Void none) {
        boolean texts = type(tree.getLeftOperand()).toString().equals("java.lang.String") || type(tree.getRightOperand()).toString().equals("java.lang.String");
        yes("texts are neither joined nor held against one another", !texts, tree);
        if (tree.getKind() == Tree.Kind.DIVIDE || tree.getKind() == Tree.Kind.REMAINDER) divides(tree.getRightOperand());
        return super.visitBinary(tree, none);
    }

    private void divides(ExpressionTree divisor) {
        yes(divisor + " is no 0", divisor.toString().matches("[1-9]\\d*|LEG_WIDTH") || LOOKED_AT.contains(divisor.toString()), divisor);
    }

    private void loop(ExpressionTree condition, Tree tree) {
        yes("a loop has its end in its own lines", condition != null && !condition.toString().equals("(true)") && !condition.toString().equals("true"), tree);
    }

    @Override
    public Void visitForLoop(ForLoopTree tree, Void none) {
        loop(tree.getCondition(), tree);
        return super.visitForLoop(tree, none);
    }

    @Override
    public Void visitWhileLoop(WhileLoopTree tree, Void none) {
        loop(tree.getCondition(), tree);
        return super.visitWhileLoop(tree, none);
    }

    @Override
    public Void visitDoWhileLoop(DoWhileLoopTree tree, Void none) {
        loop(tree.getCondition(), tree);
        return super.visitDoWhileLoop(tree, none);
    }

    @Override
    public Void visitLambdaExpression(LambdaExpressionTree tree, Void none) {
        no("lambda", tree);
        return null;
    }

    @Override
    public Void visitMemberReference(MemberReferenceTree tree, Void none) {
        no("method reference", tree);
        return null;
    }

    @Override
    public Void visitThrow(ThrowTree tree, Void none) {
        no("throw", tree);
        return null;
    }

    @Override
    public Void visitTry(TryTree tree, Void none) {
        no("try", tree);
        return null;
    }

    @Override
    public Void visitSynchronized(SynchronizedTree tree, Void none) {
        no("synchronized", tree);
        return null;
    }

    @Override
    public Void visitAssert(AssertTree tree, Void none) {
        no("assert", tree);
        return null;
    }
}
