import com.sun.source.tree.AssertTree;
import com.sun.source.tree.BinaryTree;
import com.sun.source.tree.CatchTree;
import com.sun.source.tree.ClassTree;
import com.sun.source.tree.CompilationUnitTree;
import com.sun.source.tree.ForLoopTree;
import com.sun.source.tree.ImportTree;
import com.sun.source.tree.LambdaExpressionTree;
import com.sun.source.tree.MemberReferenceTree;
import com.sun.source.tree.MethodInvocationTree;
import com.sun.source.tree.MethodTree;
import com.sun.source.tree.NewClassTree;
import com.sun.source.tree.SynchronizedTree;
import com.sun.source.tree.ThrowTree;
import com.sun.source.tree.Tree;
import com.sun.source.tree.TryTree;
import com.sun.source.tree.VariableTree;
import com.sun.source.util.JavacTask;
import com.sun.source.util.SourcePositions;
import com.sun.source.util.TreePathScanner;
import com.sun.source.util.Trees;
import java.nio.file.Path;
import java.util.ArrayList;
import java.util.HashMap;
import java.util.HashSet;
import java.util.List;
import java.util.Map;
import java.util.Set;
import java.util.TreeSet;
import javax.lang.model.element.Element;
import javax.lang.model.element.ElementKind;
import javax.lang.model.element.ExecutableElement;
import javax.lang.model.element.Modifier;
import javax.tools.JavaCompiler;
import javax.tools.StandardJavaFileManager;
import javax.tools.ToolProvider;

/** The class by those rules of LANGUAGE.md that can be seen in its text. */
public final class LanguageTest extends TreePathScanner<Void, Void> {
    private static final Path FILE =
        Path.of(System.getProperty("home", "."), "src/main/java/TabledFrames.java");
    private static final Set<String> LIBRARY = Set.of(
        "String.length", "String.charAt", "String.isEmpty", "String.equals", "String.indexOf", "String.substring",
        "String.toCharArray", "StringBuilder.append", "StringBuilder.charAt", "StringBuilder.setCharAt",
        "StringBuilder.setLength", "StringBuilder.deleteCharAt", "StringBuilder.reverse", "StringBuilder.length",
        "StringBuilder.toString", "System.arraycopy", "Arrays.copyOf", "Arrays.copyOfRange", "Arrays.fill",
        "Object.<init>", "Array.clone");
    private static final Set<String> LISTS = Set.of("ArrayList", "List");
    private static final Set<String> LIST_CALLS =
        Set.of("add", "get", "set", "remove", "size", "isEmpty", "clear", "of", "<init>");
    private static final Set<String> NUMBERS = Set.of("Integer", "Long", "Math");
    private static final Set<String> FIELD_TYPES = Set.of(
        "int", "long", "boolean", "char", "String", "int[]", "long[]", "char[]", "byte[]");
    private static final int MOST_LINES = 60;
    private static final int MOST_PARAMETERS = 7;
    private static final int MOST_DEPTH = 8;
    private static final int MOST_CLASSES = 12;
    private static final int MOST_FIELDS = 20;

    private final Trees trees;
    private final CompilationUnitTree unit;
    private final Map<Element, Set<Element>> calls = new HashMap<>();
    private final Map<Element, Integer> depths = new HashMap<>();
    private final Set<Element> open = new HashSet<>();
    private final Set<String> publicNames = new TreeSet<>();
    private final Set<String> privateNames = new TreeSet<>();
    private Element method;
    private int classesInside;

    private LanguageTest(Trees trees, CompilationUnitTree unit) {
        this.trees = trees;
        this.unit = unit;
    }

    public static void main(String[] args) throws Exception {
        JavaCompiler compiler = ToolProvider.getSystemJavaCompiler();
        try (StandardJavaFileManager files = compiler.getStandardFileManager(null, null, null)) {
            JavacTask task = (JavacTask) compiler.getTask(
                null, files, null, List.of("-proc:none"), null, files.getJavaFileObjects(FILE));
            List<CompilationUnitTree> units = new ArrayList<>();
            task.parse().forEach(units::add);
            task.analyze();
            Check.due("one file", units.size(), 1);
            LanguageTest test = new LanguageTest(Trees.instance(task), units.get(0));
            test.scan(units.get(0), null);
            test.whole();
        }
        Check.end();
    }

    private void fine(String rule, boolean holds) {
        Check.due("rule " + rule, holds ? 1 : 0, 1);
    }

    private String at(Tree tree) {
        long from = trees.getSourcePositions().getStartPosition(unit, tree);
        return " (line " + unit.getLineMap().getLineNumber(Math.max(from, 0)) + ")";
    }

    private Element here() {
        return trees.getElement(getCurrentPath());
    }

    /** What can be said behind all of the file alone. */
    private void whole() {
        fine("1: no package line", unit.getPackageName() == null);
        fine("1: one class at the top", unit.getTypeDecls().size() == 1);
        privateNames.retainAll(publicNames);
        fine("1: private methods with public names: " + privateNames, privateNames.isEmpty());
        fine("11: classes inside: " + classesInside, classesInside <= MOST_CLASSES);
        int deepest = 0;
        for (Element from : calls.keySet()) {
            int depth = depthOf(from);
            deepest = Math.max(deepest, depth);
            fine("11: calls from " + from + " go " + depth + " deep", depth <= MOST_DEPTH);
        }
        System.out.println("calls go " + deepest + " deep, the library's counted; " + classesInside + " classes inside");
    }

    /** How many calls stand open at once, from this one on, those of the library counted. */
    private int depthOf(Element from) {
        if (depths.containsKey(from)) {
            return depths.get(from);
        }
        fine("8: " + from + " calls itself, by whatever way", open.add(from));
        int deepest = 0;
        for (Element to : calls.getOrDefault(from, Set.of())) {
            deepest = Math.max(deepest, open.contains(to) ? MOST_DEPTH : depthOf(to));
        }
        open.remove(from);
        depths.put(from, deepest + 1);
        return deepest + 1;
    }

    @Override
    public Void visitImport(ImportTree tree, Void none) {
        String name = tree.getQualifiedIdentifier().toString();
        boolean known = Set.of("java.util.Arrays", "java.util.ArrayList", "java.util.List", "java.util.Iterator",
            "java.util.NoSuchElementException").contains(name);
        fine("4: import of " + name, known && !tree.isStatic());
        return null;
    }

    @Override
    public Void visitClass(ClassTree tree, Void none) {
        Element element = here();
        Set<Modifier> modifiers = element.getModifiers();
        if (element.getEnclosingElement().getKind() == ElementKind.PACKAGE) {
            fine("1: public and final", modifiers.contains(Modifier.PUBLIC) && modifiers.contains(Modifier.FINAL));
        } else {
            classesInside++;
            boolean hidden = !modifiers.contains(Modifier.PUBLIC) && !modifiers.contains(Modifier.PROTECTED);
            fine("1: " + element + " is static, private or package-visible", hidden && modifiers.contains(Modifier.STATIC));
        }
        int fields = 0;
        for (Tree member : tree.getMembers()) {
            fine("5: no initialiser block" + at(member), member.getKind() != Tree.Kind.BLOCK);
            if (member instanceof VariableTree field) {
                boolean fixed = field.getModifiers().getFlags().contains(Modifier.STATIC);
                boolean constant = field.getModifiers().getFlags().contains(Modifier.FINAL)
                    && FIELD_TYPES.contains(field.getType().toString());
                fine("5: " + field.getName() + " is a constant", !fixed || constant);
                fields += fixed ? 0 : 1;
            }
        }
        fine("11: " + element + " has " + fields + " fields", fields <= MOST_FIELDS);
        return super.visitClass(tree, none);
    }

    @Override
    public Void visitMethod(MethodTree tree, Void none) {
        Element before = method;
        method = here();
        calls.putIfAbsent(method, new HashSet<>());
        boolean outside = method.getEnclosingElement().getEnclosingElement().getKind() == ElementKind.PACKAGE;
        if (outside && method.getModifiers().contains(Modifier.PUBLIC)) {
            publicNames.add(tree.getName().toString());
        } else if (method.getModifiers().contains(Modifier.PRIVATE)) {
            privateNames.add(tree.getName().toString());
        }
        SourcePositions positions = trees.getSourcePositions();
        long first = positions.getStartPosition(unit, tree);
        long last = positions.getEndPosition(unit, tree);
        if (first >= 0 && last >= 0) {
            long lines = unit.getLineMap().getLineNumber(last) - unit.getLineMap().getLineNumber(first) + 1;
            fine("11: " + method + " has " + lines + " lines", lines <= MOST_LINES);
        }
        int parameters = tree.getParameters().size();
        fine("11: " + method + " takes " + parameters, parameters <= MOST_PARAMETERS);
        super.visitMethod(tree, none);
        method = before;
        return null;
    }

    @Override
    public Void visitMethodInvocation(MethodInvocationTree tree, Void none) {
        called(tree);
        return super.visitMethodInvocation(tree, none);
    }

    @Override
    public Void visitNewClass(NewClassTree tree, Void none) {
        called(tree);
        return super.visitNewClass(tree, none);
    }

    private void called(Tree tree) {
        Element to = here();
        if (method != null && to != null) {
            calls.computeIfAbsent(method, m -> new HashSet<>()).add(to);
        }
        if (!(to instanceof ExecutableElement)) {
            return;
        }
        Element owner = to.getEnclosingElement();
        boolean own = owner.toString().startsWith("TabledFrames");
        fine("4: " + owner + "." + to + " is called" + at(tree), own || listed(owner.getSimpleName().toString(), to));
    }

    private static boolean listed(String owner, Element to) {
        String name = to.getSimpleName().toString();
        if (NUMBERS.contains(owner)) {
            return !name.endsWith("Exact") && !to.toString().contains("double") && !to.toString().contains("float");
        }
        if (LISTS.contains(owner)) {
            return LIST_CALLS.contains(name);
        }
        boolean made = name.equals("<init>") && (owner.startsWith("String") || owner.endsWith("Exception"));
        return made || LIBRARY.contains(owner + "." + name);
    }

    @Override
    public Void visitForLoop(ForLoopTree tree, Void none) {
        fine("9: a loop has an end" + at(tree), tree.getCondition() != null);
        return super.visitForLoop(tree, none);
    }

    @Override
    public Void visitBinary(BinaryTree tree, Void none) {
        Tree right = tree.getRightOperand();
        boolean divides = tree.getKind() == Tree.Kind.DIVIDE || tree.getKind() == Tree.Kind.REMAINDER;
        boolean written = right.getKind() == Tree.Kind.INT_LITERAL || right.toString().matches("Math\\.max\\(.*, 1\\)|[A-Z_]+");
        fine("7: the divisor " + right + " is looked at before" + at(tree), !divides || written);
        return super.visitBinary(tree, none);
    }

    @Override
    public Void visitTry(TryTree tree, Void none) {
        fine("6: no finally, no resources" + at(tree), tree.getFinallyBlock() == null && tree.getResources().isEmpty());
        return super.visitTry(tree, none);
    }

    @Override
    public Void visitCatch(CatchTree tree, Void none) {
        String type = tree.getParameter().getType().toString();
        boolean thrown = Set.of("IllegalStateException", "IllegalArgumentException", "UnsupportedOperationException",
            "NoSuchElementException").contains(type);
        fine("6: " + type + " is caught, which the machine may throw" + at(tree), thrown);
        return super.visitCatch(tree, none);
    }

    @Override
    public Void visitThrow(ThrowTree tree, Void none) {
        fine("6: the document wants no exception" + at(tree), false);
        return super.visitThrow(tree, none);
    }

    @Override
    public Void visitLambdaExpression(LambdaExpressionTree tree, Void none) {
        fine("2: no lambda" + at(tree), false);
        return super.visitLambdaExpression(tree, none);
    }

    @Override
    public Void visitMemberReference(MemberReferenceTree tree, Void none) {
        fine("2: no method reference" + at(tree), false);
        return super.visitMemberReference(tree, none);
    }

    @Override
    public Void visitSynchronized(SynchronizedTree tree, Void none) {
        fine("6: no synchronized" + at(tree), false);
        return super.visitSynchronized(tree, none);
    }

    @Override
    public Void visitAssert(AssertTree tree, Void none) {
        fine("6: no assert" + at(tree), false);
        return super.visitAssert(tree, none);
    }
}
