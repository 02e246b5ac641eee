import com.sun.source.tree.ArrayAccessTree;
import com.sun.source.tree.AssertTree;
import com.sun.source.tree.BinaryTree;
import com.sun.source.tree.ClassTree;
import com.sun.source.tree.CompilationUnitTree;
import com.sun.source.tree.InstanceOfTree;
import com.sun.source.tree.LambdaExpressionTree;
import com.sun.source.tree.MemberReferenceTree;
import com.sun.source.tree.MethodInvocationTree;
import com.sun.source.tree.MethodTree;
import com.sun.source.tree.NewClassTree;
import com.sun.source.tree.SynchronizedTree;
import com.sun.source.tree.ThrowTree;
import com.sun.source.tree.Tree;
import com.sun.source.tree.TryTree;
import com.sun.source.tree.TypeCastTree;
import com.sun.source.tree.VariableTree;
import com.sun.source.util.JavacTask;
import com.sun.source.util.TreePathScanner;
import com.sun.source.util.Trees;
import java.io.IOException;
import java.nio.charset.StandardCharsets;
import java.nio.file.Files;
import java.nio.file.Path;
import java.util.ArrayList;
import java.util.HashMap;
import java.util.HashSet;
import java.util.List;
import java.util.Map;
import java.util.Set;
import java.util.TreeMap;
import java.util.TreeSet;
import javax.lang.model.element.Element;
import javax.lang.model.element.ExecutableElement;
import javax.lang.model.element.Modifier;
import javax.lang.model.element.TypeElement;
import javax.tools.JavaCompiler;
import javax.tools.StandardJavaFileManager;
import javax.tools.ToolProvider;

/**
 * The rules of LANGUAGE.md that can be seen in the source of the class, looked at by the compiler's own trees. Where the
 * class does without what a rule would let it have (catches, casts of objects, lists), the test asks for that.
 */
public final class LanguageTest extends TreePathScanner<Void, Void> {
    private static final Path SOURCE = Path.of("src/main/java/OnecodeChancery.java");
    private static final Set<String> THROWN = Set.of("IllegalStateException", "IllegalArgumentException",
        "IndexOutOfBoundsException");
    private static final Set<String> LIBRARY = Set.of("Object.<init>", "StringBuilder.<init>", "StringBuilder.append",
        "StringBuilder.length", "StringBuilder.charAt", "StringBuilder.toString", "String.length", "String.charAt");
    private static final Set<String> NUMBERS = Set.of("Integer", "Long", "Math");
    private static final Set<String> OPEN_TO_RECURSION = Set.of("Code.toldByAll", "Code.toldByOne");
    private static final Set<String> WORDS = Set.of("int", "long", "boolean", "double", "char", "String",
        "StringBuilder", "int[]", "int[][]");

    private final Trees trees;
    private final CompilationUnitTree unit;
    private final Map<String, Set<String>> calls = new TreeMap<>();
    private final Map<String, Integer> fields = new HashMap<>();
    private final Set<String> classes = new HashSet<>();
    private final Set<String> faceNames = new HashSet<>();
    private final List<String> otherNames = new ArrayList<>();

    private LanguageTest(Trees trees, CompilationUnitTree unit) {
        this.trees = trees;
        this.unit = unit;
    }

    public static void main(String[] args) throws IOException {
        JavaCompiler compiler = ToolProvider.getSystemJavaCompiler();
        StandardJavaFileManager files = compiler.getStandardFileManager(null, null, null);
        JavacTask task = (JavacTask) compiler.getTask(null, files, null, List.of("-proc:none"), null,
            files.getJavaFileObjects(SOURCE));
        CompilationUnitTree unit = task.parse().iterator().next();
        task.analyze();
        signsOfTheFile();
        LanguageTest test = new LanguageTest(Trees.instance(task), unit);
        test.scan(unit, null);
        test.namesApart();
        test.sizesOfClasses();
        test.depths();
        Checks.end();
    }

    private static void signsOfTheFile() throws IOException {
        Checks.sentence("LANGUAGE 3 and 4: no package line, no import, signs of 1 to 127");
        String source = Files.readString(SOURCE, StandardCharsets.ISO_8859_1);
        Checks.same("signs", source.chars().allMatch(sign -> sign >= 1 && sign <= 127), true);
        Checks.same("a package or an import", source.lines().anyMatch(l -> l.startsWith("package ")
            || l.startsWith("import ")), false);
    }

    private void is(String rule, Tree tree, boolean holds) {
        long line = unit.getLineMap().getLineNumber(trees.getSourcePositions().getStartPosition(unit, tree));
        Checks.sentence("LANGUAGE " + rule);
        Checks.same("line " + line + " keeps to it", holds, true);
    }

    private Element elementOf(Tree tree) {
        return trees.getElement(trees.getPath(unit, tree));
    }

    private static String nameOf(Element element) {
        return element.getEnclosingElement().getSimpleName() + "." + element.getSimpleName();
    }

    private String methodHere() {
        for (var path = getCurrentPath(); path != null; path = path.getParentPath()) {
            if (path.getLeaf() instanceof MethodTree method) {
                return nameOf(elementOf(method));
            }
        }
        return "";
    }

    // ---- what may not stand at all

    @Override
    public Void visitLambdaExpression(LambdaExpressionTree tree, Void none) {
        is("2: no lambda", tree, false);
        return super.visitLambdaExpression(tree, none);
    }

    @Override
    public Void visitMemberReference(MemberReferenceTree tree, Void none) {
        is("2: no method reference", tree, false);
        return super.visitMemberReference(tree, none);
    }

    @Override
    public Void visitTry(TryTree tree, Void none) {
        is("6: nothing is caught", tree, false);
        return super.visitTry(tree, none);
    }

    @Override
    public Void visitSynchronized(SynchronizedTree tree, Void none) {
        is("6: no synchronized", tree, false);
        return super.visitSynchronized(tree, none);
    }

    @Override
    public Void visitAssert(AssertTree tree, Void none) {
        is("6: no assert", tree, false);
        return super.visitAssert(tree, none);
    }

    @Override
    public Void visitInstanceOf(InstanceOfTree tree, Void none) {
        is("6: no class is asked for", tree, false);
        return super.visitInstanceOf(tree, none);
    }

    // ---- what may stand

    @Override
    public Void visitTypeCast(TypeCastTree tree, Void none) {
        is("6: casts of numbers alone", tree, tree.getType().getKind() == Tree.Kind.PRIMITIVE_TYPE);
        return super.visitTypeCast(tree, none);
    }

    @Override
    public Void visitThrow(ThrowTree tree, Void none) {
        boolean isNew = tree.getExpression() instanceof NewClassTree made
            && THROWN.contains(made.getIdentifier().toString()) && made.getArguments().size() == 1
            && made.getArguments().get(0).getKind() == Tree.Kind.STRING_LITERAL;
        is("6: throw new E(\"a written text\"), not in a constructor", tree, isNew && !methodHere().endsWith("<init>"));
        return super.visitThrow(tree, none);
    }

    /** An int or a long that is divided is divided by a written number that is not 0. */
    @Override
    public Void visitBinary(BinaryTree tree, Void none) {
        if (tree.getKind() == Tree.Kind.DIVIDE || tree.getKind() == Tree.Kind.REMAINDER) {
            String divisor = tree.getRightOperand().toString();
            is("7: a divisor", tree, divisor.matches("[1-9]\\d*|\\(double\\)pairs"));
        }
        return super.visitBinary(tree, none);
    }

    @Override
    public Void visitArrayAccess(ArrayAccessTree tree, Void none) {
        is("7: an index is a name or a number", tree, tree.getIndex().toString().matches("[\\w.]+( - 1)?"));
        return super.visitArrayAccess(tree, none);
    }

    @Override
    public Void visitNewClass(NewClassTree tree, Void none) {
        is("2: no anonymous class", tree, tree.getClassBody() == null);
        addCall((ExecutableElement) elementOf(tree));
        return super.visitNewClass(tree, none);
    }

    @Override
    public Void visitMethodInvocation(MethodInvocationTree tree, Void none) {
        Element called = elementOf(tree.getMethodSelect());
        String owner = ((TypeElement) called.getEnclosingElement()).getQualifiedName().toString();
        if (owner.startsWith("OnecodeChancery")) {
            addCall((ExecutableElement) called);
        } else {
            is("4: " + nameOf(called), tree, LIBRARY.contains(nameOf(called)) || isOfNumbers((ExecutableElement) called));
        }
        return super.visitMethodInvocation(tree, none);
    }

    private static boolean isOfNumbers(ExecutableElement called) {
        Set<String> kinds = new HashSet<>(Set.of("int", "long"));
        called.getParameters().forEach(parameter -> kinds.add(parameter.asType().toString()));
        return NUMBERS.contains(called.getEnclosingElement().getSimpleName().toString())
            && called.getModifiers().contains(Modifier.STATIC) && kinds.size() == 2
            && !called.getSimpleName().toString().endsWith("Exact");
    }

    private void addCall(ExecutableElement called) {
        String owner = ((TypeElement) called.getEnclosingElement()).getQualifiedName().toString();
        if (owner.startsWith("OnecodeChancery")) {
            calls.computeIfAbsent(methodHere(), key -> new TreeSet<>()).add(nameOf(called));
        }
    }

    @Override
    public Void visitVariable(VariableTree tree, Void none) {
        String type = tree.getType() == null ? "var" : tree.getType().toString();
        String item = type.replace("[]", "");
        boolean isOwn = classes.contains(item) && !type.endsWith("[][]");
        is("3: the type " + type, tree, WORDS.contains(type) || isOwn);
        if (elementOf(tree).getKind().isField() && !tree.getModifiers().getFlags().contains(Modifier.STATIC)) {
            fields.merge(elementOf(tree).getEnclosingElement().getSimpleName().toString(), 1, Integer::sum);
        }
        return super.visitVariable(tree, none);
    }

    @Override
    public Void visitClass(ClassTree tree, Void none) {
        for (Tree member : tree.getMembers()) {
            if (member instanceof ClassTree inside) {
                classes.add(inside.getSimpleName().toString());
            }
        }
        is("2: an own class is a class", tree, tree.getKind() == Tree.Kind.CLASS && tree.getTypeParameters().isEmpty());
        return super.visitClass(tree, none);
    }

    @Override
    public Void visitMethod(MethodTree tree, Void none) {
        var positions = trees.getSourcePositions();
        long first = unit.getLineMap().getLineNumber(positions.getStartPosition(unit, tree));
        long last = unit.getLineMap().getLineNumber(positions.getEndPosition(unit, tree));
        is("11: at most seven parameters", tree, tree.getParameters().size() <= 7);
        is("11: some sixty lines", tree, last - first < 60);
        String name = tree.getName().toString();
        is("6: no equals, hashCode or toString", tree, !Set.of("equals", "hashCode", "toString").contains(name));
        if (tree.getModifiers().getFlags().contains(Modifier.PUBLIC)) {
            faceNames.add(name);
        } else {
            otherNames.add(name);
        }
        return super.visitMethod(tree, none);
    }

    // ---- the whole

    private void namesApart() {
        Checks.sentence("LANGUAGE 1: no private method bears the name of a public one");
        for (String name : otherNames) {
            Checks.same(name, faceNames.contains(name) && !name.equals("<init>"), false);
        }
    }

    private void sizesOfClasses() {
        Checks.sentence("LANGUAGE 11: some twelve classes, and some twenty fields in each");
        Checks.same("classes", classes.size() + 1 <= 12, true);
        fields.forEach((name, count) -> Checks.same("fields of " + name, count <= 20, true));
    }

    private void depths() {
        Checks.sentence("LANGUAGE 8 and 11: calls that are no recursion go at most eight deep");
        for (String method : calls.keySet()) {
            Checks.same(method, depthOf(method, new ArrayList<>()) <= 8, true);
        }
    }

    /** How many calls stand open at most with that one; those that may come again are counted once. */
    private int depthOf(String method, List<String> open) {
        if (open.contains(method)) {
            Checks.same(method + " may call itself", OPEN_TO_RECURSION.contains(method), true);
            return 0;
        }
        open.add(method);
        int deepest = 0;
        for (String called : calls.getOrDefault(method, Set.of())) {
            deepest = Math.max(deepest, depthOf(called, open));
        }
        open.remove(method);
        return deepest + 1;
    }
}
