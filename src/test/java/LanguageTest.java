import com.sun.source.tree.AssertTree;
import com.sun.source.tree.BinaryTree;
import com.sun.source.tree.BlockTree;
import com.sun.source.tree.ClassTree;
import com.sun.source.tree.CompilationUnitTree;
import com.sun.source.tree.ExpressionTree;
import com.sun.source.tree.IdentifierTree;
import com.sun.source.tree.LambdaExpressionTree;
import com.sun.source.tree.MemberReferenceTree;
import com.sun.source.tree.MemberSelectTree;
import com.sun.source.tree.MethodInvocationTree;
import com.sun.source.tree.MethodTree;
import com.sun.source.tree.NewArrayTree;
import com.sun.source.tree.NewClassTree;
import com.sun.source.tree.SynchronizedTree;
import com.sun.source.tree.ThrowTree;
import com.sun.source.tree.Tree;
import com.sun.source.tree.TryTree;
import com.sun.source.tree.TypeCastTree;
import com.sun.source.tree.VariableTree;
import com.sun.source.util.JavacTask;
import com.sun.source.util.SourcePositions;
import com.sun.source.util.TreePath;
import com.sun.source.util.TreePathScanner;
import com.sun.source.util.Trees;
import java.io.IOException;
import java.nio.file.Path;
import java.util.HashMap;
import java.util.HashSet;
import java.util.LinkedHashMap;
import java.util.LinkedHashSet;
import java.util.List;
import java.util.Map;
import java.util.Set;
import javax.lang.model.element.Element;
import javax.lang.model.element.ElementKind;
import javax.lang.model.element.ExecutableElement;
import javax.lang.model.element.Modifier;
import javax.lang.model.element.TypeElement;
import javax.tools.JavaCompiler;
import javax.tools.StandardJavaFileManager;
import javax.tools.ToolProvider;

/**
 * The rules of LANGUAGE.md, seen on the tree that the compiler makes of the program. Where the program
 * does without what a rule would allow (recursion, casts, lists), its absence is what is tested.
 */
public final class LanguageTest extends TreePathScanner<Void, Void> {
    private static final Check CHECK = new Check("LanguageTest");
    private static final Path SOURCE = Path.of("src/main/java/BassButtons.java");

    private static final int MOST_PARAMETERS = 7;
    private static final int MOST_LINES = 60;
    private static final int MOST_DEPTH = 8;
    private static final int MOST_CLASSES = 12;
    private static final int MOST_FIELDS = 20;

    /** Of rule 4 the part that the program uses, or might. */
    private static final Set<String> LIBRARY = Set.of(
        "java.lang.Math.min", "java.lang.Math.max", "java.lang.Math.abs",
        "java.lang.Math.floorDiv", "java.lang.Math.floorMod",
        "java.lang.Integer.bitCount", "java.lang.Integer.compare",
        "java.lang.System.arraycopy", "java.util.Arrays.fill", "Array.length");
    private static final Set<String> STATIC_TYPES = Set.of("int", "long", "boolean", "char", "java.lang.String");
    private static final Set<String> STATIC_ROWS = Set.of("int[]", "long[]", "char[]", "byte[]");
    private static final Set<String> TYPES = Set.of(
        "int", "long", "short", "byte", "char", "boolean", "void",
        "int[]", "long[]", "short[]", "byte[]", "char[]", "boolean[]", "int[][]", "long[][]");

    private final Trees trees;
    private final CompilationUnitTree unit;
    private final Set<String> publicNames = new HashSet<>();
    private final Map<String, Set<String>> calls = new LinkedHashMap<>();
    private int classes = 0;
    private String method = "";
    private boolean isInConstructor = false;

    private LanguageTest(Trees trees, CompilationUnitTree unit) {
        this.trees = trees;
        this.unit = unit;
    }

    public static void main(String[] args) throws IOException {
        JavaCompiler compiler = ToolProvider.getSystemJavaCompiler();
        try (StandardJavaFileManager files = compiler.getStandardFileManager(null, null, null)) {
            JavacTask task = (JavacTask) compiler.getTask(
                null, files, null, List.of("-proc:none"), null, files.getJavaFileObjects(SOURCE));
            CompilationUnitTree unit = task.parse().iterator().next();
            task.analyze();
            LanguageTest test = new LanguageTest(Trees.instance(task), unit);
            test.oneFile();
            test.scan(unit, null);
            test.manyClasses();
            test.depthOfCalls();
        }
        CHECK.end();
    }

    private static void holds(String what, boolean is) {
        CHECK.due(what, is ? 1 : 0, 1);
    }

    private void oneFile() {
        CHECK.sentence("One file, without a package line, one public class; rule 4: the library");
        holds("no package line", unit.getPackageName() == null);
        holds("no import", unit.getImports().isEmpty());
        holds("one class outside all others", unit.getTypeDecls().size() == 1);
        ClassTree face = (ClassTree) unit.getTypeDecls().get(0);
        for (Tree member : face.getMembers()) {
            if (member instanceof MethodTree m && m.getModifiers().getFlags().contains(Modifier.PUBLIC)) {
                publicNames.add(m.getName().toString());
            }
        }
        publicNames.remove("<init>");
    }

    private void manyClasses() {
        CHECK.sentence("Rule 11: at most some twelve classes");
        holds(classes + " classes", classes > 1 && classes <= MOST_CLASSES);
    }

    @Override
    public Void visitClass(ClassTree tree, Void none) {
        classes++;
        Set<Modifier> flags = tree.getModifiers().getFlags();
        String name = tree.getSimpleName().toString();
        if (getCurrentPath().getParentPath().getLeaf() != unit) {
            CHECK.sentence("Rules 1 and 2: classes inside are static, private or package-visible");
            holds(name + " is static", flags.contains(Modifier.STATIC));
            holds(name + " is not public", !flags.contains(Modifier.PUBLIC) && !flags.contains(Modifier.PROTECTED));
            holds(name + " stands in a class", getCurrentPath().getParentPath().getLeaf() instanceof ClassTree);
        }
        int fields = 0;
        for (Tree member : tree.getMembers()) {
            if (member instanceof VariableTree field) {
                fields += isStatic(field) ? 0 : 1;
                staticField(name, field);
            }
            holds("rule 5: no block outside methods in " + name, !(member instanceof BlockTree));
        }
        CHECK.sentence("Rule 11: a class has some twenty fields beside its constants");
        holds(name + " has " + fields, fields <= MOST_FIELDS);
        return super.visitClass(tree, none);
    }

    private static boolean isStatic(VariableTree field) {
        return field.getModifiers().getFlags().contains(Modifier.STATIC);
    }

    private void staticField(String owner, VariableTree field) {
        if (!isStatic(field)) {
            return;
        }
        CHECK.sentence("Rule 5: static fields are final constants, or rows written out");
        String name = owner + "." + field.getName();
        String type = field.getType().toString();
        boolean isRow = STATIC_ROWS.contains(type) && field.getInitializer() instanceof NewArrayTree row
            && row.getInitializers() != null && row.getType() == null;
        holds(name + " is final", field.getModifiers().getFlags().contains(Modifier.FINAL));
        holds(name + " is a constant or a row: " + type, STATIC_TYPES.contains(type) || isRow);
    }

    @Override
    public Void visitVariable(VariableTree tree, Void none) {
        CHECK.sentence("Rule 3: types");
        Element element = trees.getElement(getCurrentPath());
        String type = element.asType().toString();
        boolean isOwn = type.startsWith("BassButtons.");
        holds(tree.getName() + " is of a type that may be: " + type, isOwn || TYPES.contains(type));
        return super.visitVariable(tree, none);
    }

    @Override
    public Void visitMethod(MethodTree tree, Void none) {
        Element element = trees.getElement(getCurrentPath());
        String name = nameOf(element);
        boolean isMadeByCompiler = trees.getSourcePositions().getEndPosition(unit, tree)
            <= trees.getSourcePositions().getStartPosition(unit, tree);
        if (!isMadeByCompiler) {
            shape(name, tree);
        }
        String outerMethod = method;
        boolean wasInConstructor = isInConstructor;
        method = name;
        isInConstructor = element.getKind() == ElementKind.CONSTRUCTOR;
        calls.put(method, new LinkedHashSet<>());
        super.visitMethod(tree, none);
        method = outerMethod;
        isInConstructor = wasInConstructor;
        return null;
    }

    private void shape(String name, MethodTree tree) {
        CHECK.sentence("Rule 11: at most seven parameters, some sixty lines");
        SourcePositions at = trees.getSourcePositions();
        long first = unit.getLineMap().getLineNumber(at.getStartPosition(unit, tree));
        long last = unit.getLineMap().getLineNumber(at.getEndPosition(unit, tree));
        holds(name + " has " + tree.getParameters().size() + " parameters", tree.getParameters().size() <= MOST_PARAMETERS);
        holds(name + " has " + (last - first + 1) + " lines", last - first + 1 <= MOST_LINES);
        CHECK.sentence("Rule 1: no private method bears the name of a public one");
        boolean isPublic = tree.getModifiers().getFlags().contains(Modifier.PUBLIC);
        holds(name, isPublic || !publicNames.contains(tree.getName().toString()));
    }

    private static String nameOf(Element element) {
        return element.getEnclosingElement() + "." + element;
    }

    @Override
    public Void visitMethodInvocation(MethodInvocationTree tree, Void none) {
        Element called = trees.getElement(getCurrentPath());
        isCalled(called);
        if (isInConstructor) {
            handsOutNothing(tree, called);
        }
        return super.visitMethodInvocation(tree, none);
    }

    /** Every constructor begins with Object's, which the program does not write. */
    private void isCalled(Element called) {
        String name = nameOf(called);
        if (!name.startsWith("java.lang.Object.")) {
            calls.computeIfAbsent(method, m -> new LinkedHashSet<>()).add(name);
        }
    }

    private void handsOutNothing(MethodInvocationTree tree, Element called) {
        CHECK.sentence("Rule 12: a constructor hands out nothing of the object that it makes");
        for (ExpressionTree argument : tree.getArguments()) {
            Element given = trees.getElement(new TreePath(getCurrentPath(), argument));
            boolean isConstant = given != null && given.getModifiers().contains(Modifier.STATIC);
            holds(method + " gives " + argument + " to " + called,
                isConstant || argument.getKind() == Tree.Kind.INT_LITERAL);
        }
    }

    @Override
    public Void visitNewClass(NewClassTree tree, Void none) {
        CHECK.sentence("Rule 12 and the one room: only constructors and fields make objects");
        holds(method + " makes " + tree, isInConstructor || method.isEmpty());
        holds("no class without a name", tree.getClassBody() == null);
        isCalled(trees.getElement(getCurrentPath()));
        return super.visitNewClass(tree, none);
    }

    @Override
    public Void visitNewArray(NewArrayTree tree, Void none) {
        CHECK.sentence("Rule 12 and the one room: only constructors and fields make rows");
        holds(method + " makes " + tree, isInConstructor || method.isEmpty());
        return super.visitNewArray(tree, none);
    }

    @Override
    public Void visitMemberSelect(MemberSelectTree tree, Void none) {
        used(trees.getElement(getCurrentPath()), tree);
        return super.visitMemberSelect(tree, none);
    }

    @Override
    public Void visitIdentifier(IdentifierTree tree, Void none) {
        used(trees.getElement(getCurrentPath()), tree);
        return super.visitIdentifier(tree, none);
    }

    private void used(Element element, Tree tree) {
        if (element == null || element instanceof TypeElement || element.getSimpleName().contentEquals("super")) {
            return;
        }
        Element owner = element.getEnclosingElement();
        boolean isMember = element instanceof ExecutableElement || element.getKind().isField();
        if (!isMember || owner.toString().startsWith("BassButtons")) {
            return;
        }
        CHECK.sentence("Rule 4: only the library that is listed");
        boolean isObjectsOwn = owner.toString().equals("java.lang.Object") && element.getKind() == ElementKind.CONSTRUCTOR;
        holds(tree.toString(), isObjectsOwn || LIBRARY.contains(owner + "." + element.getSimpleName()));
    }

    private void never(String what) {
        CHECK.sentence("Rules 2 and 6");
        holds("there is " + what, false);
    }

    @Override
    public Void visitThrow(ThrowTree tree, Void none) {
        never("a throw");
        return super.visitThrow(tree, none);
    }

    @Override
    public Void visitTry(TryTree tree, Void none) {
        never("a try");
        return super.visitTry(tree, none);
    }

    @Override
    public Void visitSynchronized(SynchronizedTree tree, Void none) {
        never("a synchronized block");
        return super.visitSynchronized(tree, none);
    }

    @Override
    public Void visitAssert(AssertTree tree, Void none) {
        never("an assert");
        return super.visitAssert(tree, none);
    }

    @Override
    public Void visitLambdaExpression(LambdaExpressionTree tree, Void none) {
        never("a lambda");
        return super.visitLambdaExpression(tree, none);
    }

    @Override
    public Void visitMemberReference(MemberReferenceTree tree, Void none) {
        never("a method reference");
        return super.visitMemberReference(tree, none);
    }

    @Override
    public Void visitTypeCast(TypeCastTree tree, Void none) {
        never("a cast: " + tree);
        return super.visitTypeCast(tree, none);
    }

    @Override
    public Void visitBinary(BinaryTree tree, Void none) {
        if (tree.getKind() == Tree.Kind.DIVIDE || tree.getKind() == Tree.Kind.REMAINDER) {
            CHECK.sentence("Rule 7: a divisor is looked at: it is a constant");
            Element divisor = trees.getElement(new TreePath(getCurrentPath(), tree.getRightOperand()));
            holds(tree.toString(), divisor != null && divisor.getModifiers().contains(Modifier.STATIC));
        }
        return super.visitBinary(tree, none);
    }

    private void depthOfCalls() {
        CHECK.sentence("Rules 8 and 11: no recursion, and calls at most eight deep, the library's counted");
        Map<String, Integer> known = new HashMap<>();
        for (String from : calls.keySet()) {
            int depth = depthFrom(from, known, new LinkedHashSet<>());
            holds(from + " goes " + depth + " deep", depth <= MOST_DEPTH);
        }
    }

    private int depthFrom(String from, Map<String, Integer> known, Set<String> open) {
        if (known.containsKey(from)) {
            return known.get(from);
        }
        open.add(from);
        int deepest = 0;
        for (String to : calls.getOrDefault(from, Set.of())) {
            boolean isOpen = open.contains(to);
            holds(from + " does not come to " + to + " again, by " + open, !isOpen);
            deepest = isOpen ? deepest : Math.max(deepest, depthFrom(to, known, open));
        }
        open.remove(from);
        known.put(from, deepest + 1);
        return deepest + 1;
    }
}
