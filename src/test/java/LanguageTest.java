import com.sun.source.tree.AssertTree;
import com.sun.source.tree.BinaryTree;
import com.sun.source.tree.ClassTree;
import com.sun.source.tree.CompilationUnitTree;
import com.sun.source.tree.ImportTree;
import com.sun.source.tree.LambdaExpressionTree;
import com.sun.source.tree.MemberReferenceTree;
import com.sun.source.tree.MethodInvocationTree;
import com.sun.source.tree.MethodTree;
import com.sun.source.tree.NewClassTree;
import com.sun.source.tree.SynchronizedTree;
import com.sun.source.tree.ThrowTree;
import com.sun.source.tree.Tree;
import com.sun.source.tree.TryTree;
import com.sun.source.tree.VariableTree;
import com.sun.source.util.JavacTask;
import com.sun.source.util.TreePathScanner;
import com.sun.source.util.Trees;
import java.io.IOException;
import java.nio.file.Path;
import java.util.List;
import java.util.Map;
import java.util.Set;
import java.util.TreeMap;
import java.util.TreeSet;
import javax.lang.model.element.Element;
import javax.lang.model.element.ElementKind;
import javax.lang.model.element.ExecutableElement;
import javax.lang.model.element.Modifier;
import javax.lang.model.type.TypeMirror;
import javax.tools.JavaCompiler;
import javax.tools.StandardJavaFileManager;
import javax.tools.ToolProvider;

/** The source of the class keeps to the rules of LANGUAGE.md that can be seen from its tree. */
public final class LanguageTest extends TreePathScanner<Void, Void> {
    private static final Path SOURCE = Path.of("src/main/java/BootSlots.java");
    private static final int MOST_PARAMETERS = 7;
    private static final int MOST_LINES = 60;
    private static final int MOST_CLASSES = 12;
    private static final int MOST_FIELDS = 20;
    private static final int MOST_DEEP = 8;
    private static final Set<String> LIBRARY = Set.of("java.lang.Math.min(int,int)", "java.lang.Math.max(int,int)",
            "java.lang.String.length()", "java.lang.String.charAt(int)");
    private static final Set<String> THROWN = Set.of("java.lang.IllegalStateException",
            "java.lang.IllegalArgumentException", "java.lang.IndexOutOfBoundsException");
    private static final Set<String> TYPES = Set.of("int", "boolean", "byte", "char", "float", "double", "void",
            "java.lang.String", "int[]", "boolean[]", "byte[]");

    private final Trees trees;
    private final CompilationUnitTree unit;
    private final Map<String, Set<String>> calls = new TreeMap<>();
    private final Map<String, Integer> fields = new TreeMap<>();
    private String method = "";
    private int classes;

    private LanguageTest(Trees trees, CompilationUnitTree unit) {
        this.trees = trees;
        this.unit = unit;
    }

    public static void main(String[] args) throws IOException {
        JavaCompiler compiler = ToolProvider.getSystemJavaCompiler();
        try (StandardJavaFileManager files = compiler.getStandardFileManager(null, null, null)) {
            JavacTask task = (JavacTask) compiler.getTask(null, files, null, List.of("-proc:none"), null,
                    files.getJavaFileObjects(SOURCE));
            CompilationUnitTree unit = task.parse().iterator().next();
            task.analyze();
            LanguageTest test = new LanguageTest(Trees.instance(task), unit);
            test.scan(unit, null);
            test.checkSums();
        }
        Check.end();
    }

    private void checkSums() {
        Check.about("LANGUAGE.md, rule 1");
        Check.due("package line", unit.getPackage() == null, true);
        Check.due("classes at the top", unit.getTypeDecls().size(), 1);
        Check.about("LANGUAGE.md, rule 11");
        Check.due("no more than some twelve classes, " + classes, classes <= MOST_CLASSES, true);
        for (Map.Entry<String, Integer> e : fields.entrySet()) {
            Check.due("no more than some twenty fields in " + e.getKey(), e.getValue() <= MOST_FIELDS, true);
        }
        for (String caller : calls.keySet()) {
            int depth = depth(caller, new TreeSet<>());
            Check.due("no more than eight calls deep, " + caller, depth > 0 && depth <= MOST_DEEP, true);
        }
    }

    /** How deep calls go from there, that one too; far too deep if one comes back to a caller of it. */
    private int depth(String caller, Set<String> open) {
        if (!open.add(caller)) {
            Check.about("LANGUAGE.md, rule 8");
            Check.due("recursion, " + caller, true, false);
            return MOST_DEEP + 1;
        }
        int deepest = 0;
        for (String callee : calls.getOrDefault(caller, Set.of())) {
            deepest = Math.max(deepest, depth(callee, open));
        }
        open.remove(caller);
        return deepest + 1;
    }

    private String place(Tree tree) {
        return "line " + lineOf(trees.getSourcePositions().getStartPosition(unit, tree));
    }

    private long lineOf(long position) {
        return unit.getLineMap().getLineNumber(position);
    }

    private void rule(int number, String what, Tree tree, boolean holds) {
        Check.about("LANGUAGE.md, rule " + number);
        Check.due(what + ", " + place(tree), holds, true);
    }

    private Element element() {
        return trees.getElement(getCurrentPath());
    }

    @Override
    public Void visitImport(ImportTree tree, Void p) {
        rule(4, "no import", tree, false);
        return null;
    }

    @Override
    public Void visitClass(ClassTree tree, Void p) {
        classes++;
        Element e = element();
        boolean isTop = e.getEnclosingElement().getKind() == ElementKind.PACKAGE;
        Set<Modifier> modifiers = e.getModifiers();
        rule(1, "public at the top, private inside", tree, modifiers.contains(isTop ? Modifier.PUBLIC : Modifier.PRIVATE));
        rule(2, "static and final inside", tree, modifiers.contains(Modifier.FINAL)
                && modifiers.contains(Modifier.STATIC) != isTop);
        return super.visitClass(tree, p);
    }

    @Override
    public Void visitMethod(MethodTree tree, Void p) {
        ExecutableElement e = (ExecutableElement) element();
        method = e.getEnclosingElement() + "." + e;
        calls.putIfAbsent(method, new TreeSet<>());
        rule(11, "seven parameters at most", tree, tree.getParameters().size() <= MOST_PARAMETERS);
        long first = lineOf(trees.getSourcePositions().getStartPosition(unit, tree));
        long last = lineOf(trees.getSourcePositions().getEndPosition(unit, tree));
        rule(11, "some sixty lines at most", tree, last - first < MOST_LINES);
        String name = tree.getName().toString();
        rule(6, "none of the names that all objects have", tree, !Set.of("equals", "hashCode", "toString").contains(name));
        if (tree.getReturnType() != null) {
            checkType(tree, e.getReturnType());
        }
        super.visitMethod(tree, p);
        method = "";
        return null;
    }

    @Override
    public Void visitVariable(VariableTree tree, Void p) {
        Element e = element();
        checkType(tree, e.asType());
        boolean isStatic = e.getModifiers().contains(Modifier.STATIC);
        if (isStatic) {
            boolean isConstant = e.getModifiers().contains(Modifier.FINAL)
                    && Set.of("int", "java.lang.String").contains(e.asType().toString());
            rule(5, "static fields are constants", tree, isConstant);
        } else if (e.getKind() == ElementKind.FIELD) {
            fields.merge(e.getEnclosingElement().toString(), 1, Integer::sum);
        }
        return super.visitVariable(tree, p);
    }

    private void checkType(Tree tree, TypeMirror type) {
        String name = type.toString();
        rule(3, "a type of the rule, " + name, tree, TYPES.contains(name) || name.matches("BootSlots\\.\\w+(\\[\\])?"));
    }

    @Override
    public Void visitMethodInvocation(MethodInvocationTree tree, Void p) {
        Element e = element();
        String callee = e.getEnclosingElement() + "." + e;
        if (callee.startsWith("BootSlots")) {
            calls.computeIfAbsent(method, m -> new TreeSet<>()).add(callee);
        } else if (!callee.equals("java.lang.Object.Object()")) {
            rule(4, "what the library may give, " + callee, tree, LIBRARY.contains(callee));
        }
        return super.visitMethodInvocation(tree, p);
    }

    @Override
    public Void visitNewClass(NewClassTree tree, Void p) {
        String made = element().getEnclosingElement().toString();
        rule(4, "what may be made, " + made, tree, made.startsWith("BootSlots.") || THROWN.contains(made));
        rule(2, "no class without a name", tree, tree.getClassBody() == null);
        return super.visitNewClass(tree, p);
    }

    @Override
    public Void visitThrow(ThrowTree tree, Void p) {
        rule(6, "throw new", tree, tree.getExpression() instanceof NewClassTree);
        rule(6, "no throw in a constructor", tree, !method.contains(".BootSlots(") && !method.matches(".*\\.(\\w+)\\.\\1\\(.*"));
        return super.visitThrow(tree, p);
    }

    @Override
    public Void visitBinary(BinaryTree tree, Void p) {
        if (tree.getKind() == Tree.Kind.PLUS) {
            String sum = trees.getTypeMirror(getCurrentPath()).toString();
            rule(10, "no texts joined by +", tree, !sum.equals("java.lang.String"));
        }
        return super.visitBinary(tree, p);
    }

    @Override
    public Void visitTry(TryTree tree, Void p) {
        rule(6, "no try: nothing that is thrown is caught", tree, false);
        return null;
    }

    @Override
    public Void visitSynchronized(SynchronizedTree tree, Void p) {
        rule(6, "no synchronized", tree, false);
        return null;
    }

    @Override
    public Void visitAssert(AssertTree tree, Void p) {
        rule(6, "no assert", tree, false);
        return null;
    }

    @Override
    public Void visitLambdaExpression(LambdaExpressionTree tree, Void p) {
        rule(2, "no lambda", tree, false);
        return null;
    }

    @Override
    public Void visitMemberReference(MemberReferenceTree tree, Void p) {
        rule(2, "no method reference", tree, false);
        return null;
    }
}
