import com.sun.source.tree.AssertTree;
import com.sun.source.tree.BinaryTree;
import com.sun.source.tree.BlockTree;
import com.sun.source.tree.ClassTree;
import com.sun.source.tree.CompilationUnitTree;
import com.sun.source.tree.DoWhileLoopTree;
import com.sun.source.tree.ForLoopTree;
import com.sun.source.tree.ImportTree;
import com.sun.source.tree.LambdaExpressionTree;
import com.sun.source.tree.MemberReferenceTree;
import com.sun.source.tree.MethodInvocationTree;
import com.sun.source.tree.MethodTree;
import com.sun.source.tree.NewArrayTree;
import com.sun.source.tree.NewClassTree;
import com.sun.source.tree.SynchronizedTree;
import com.sun.source.tree.ThrowTree;
import com.sun.source.tree.Tree;
import com.sun.source.tree.TryTree;
import com.sun.source.tree.VariableTree;
import com.sun.source.tree.WhileLoopTree;
import com.sun.source.util.JavacTask;
import com.sun.source.util.SourcePositions;
import com.sun.source.util.TreePath;
import com.sun.source.util.TreePathScanner;
import com.sun.source.util.Trees;
import java.io.IOException;
import java.net.URI;
import java.util.ArrayList;
import java.util.HashMap;
import java.util.List;
import java.util.Map;
import java.util.Set;
import java.util.TreeSet;
import javax.lang.model.element.Element;
import javax.lang.model.element.ElementKind;
import javax.lang.model.element.Modifier;
import javax.lang.model.element.TypeElement;
import javax.tools.Diagnostic;
import javax.tools.DiagnosticCollector;
import javax.tools.JavaFileObject;
import javax.tools.SimpleJavaFileObject;
import javax.tools.ToolProvider;

/**
 * Reads a program as the compiler does and tells where it leaves LANGUAGE.md, as far as that can
 * be seen from its text. It is stricter than the rules where this program needs less than they
 * leave: objects are made by constructors alone, every loop is a for with a counter, nothing is
 * divided, and no method calls itself, by others or not.
 */
final class Language extends TreePathScanner<Void, Void> {
    private static final Set<String> LIBRARY = Set.of(
            "java.util.Arrays.fill", "java.lang.Math.max", "java.lang.Math.min",
            "java.lang.Object.<init>");
    private static final Set<String> NUMBERS = Set.of(
            "int", "long", "short", "byte", "char", "double", "float");
    private static final Set<String> CONSTANTS = Set.of(
            "int", "long", "boolean", "char", "String", "int[]", "long[]", "char[]", "byte[]");
    private static final int MOST_PARAMETERS = 7;
    private static final int MOST_LINES = 60;
    private static final int MOST_CLASSES = 12;
    private static final int MOST_FIELDS = 20;
    private static final int MOST_CALLS_DEEP = 8;

    private final List<String> breaches = new ArrayList<>();
    private final Map<Element, Set<Element>> callsOf = new HashMap<>();
    private final CompilationUnitTree unit;
    private final Trees trees;
    private int classes;

    private Language(CompilationUnitTree unit, Trees trees) {
        this.unit = unit;
        this.trees = trees;
    }

    /** Each breach begins with the number of its rule, or with "java" if it does not compile. */
    static List<String> breachesOf(String program) throws IOException {
        DiagnosticCollector<JavaFileObject> told = new DiagnosticCollector<>();
        JavacTask task = (JavacTask) ToolProvider.getSystemJavaCompiler().getTask(null, null, told,
                List.of("--release", "17", "-proc:none"), null, List.of(new Text(program)));
        CompilationUnitTree unit = task.parse().iterator().next();
        task.analyze();
        Language reader = new Language(unit, Trees.instance(task));
        for (Diagnostic<?> d : told.getDiagnostics()) {
            reader.breach("java", unit, d.getMessage(null));
        }
        if (reader.breaches.isEmpty()) {
            reader.scan(unit, null);
            reader.lookAtTheWhole();
        }
        return reader.breaches;
    }

    private static final class Text extends SimpleJavaFileObject {
        private final String text;

        Text(String text) {
            super(URI.create("string:///SubflowExecutor.java"), Kind.SOURCE);
            this.text = text;
        }

        @Override
        public CharSequence getCharContent(boolean ignoreEncodingErrors) {
            return text;
        }
    }

    private void breach(String rule, Tree at, String what) {
        SourcePositions places = trees.getSourcePositions();
        long line = unit.getLineMap().getLineNumber(Math.max(0, places.getStartPosition(unit, at)));
        breaches.add(rule + ", line " + line + ": " + what);
    }

    private void lookAtTheWhole() {
        if (unit.getPackageName() != null) {
            breach("0", unit, "a package line");
        }
        if (unit.getTypeDecls().size() != 1) {
            breach("0", unit, "more than one class outside");
        }
        if (classes > MOST_CLASSES) {
            breach("11", unit, classes + " classes");
        }
        for (Element method : callsOf.keySet()) {
            lookHowDeep(method, new ArrayList<>());
        }
    }

    private void lookHowDeep(Element method, List<Element> open) {
        if (open.contains(method)) {
            breach("8", unit, method + " calls itself");
            return;
        }
        open.add(method);
        if (open.size() > MOST_CALLS_DEEP) {
            breach("11", unit, "calls go too deep: " + open);
        } else {
            for (Element called : callsOf.getOrDefault(method, Set.of())) {
                lookHowDeep(called, open);
            }
        }
        open.remove(open.size() - 1);
    }

    @Override
    public Void visitImport(ImportTree tree, Void none) {
        if (!tree.getQualifiedIdentifier().toString().equals("java.util.Arrays")) {
            breach("4", tree, tree.toString().trim());
        }
        return null;
    }

    @Override
    public Void visitClass(ClassTree tree, Void none) {
        classes++;
        Tree around = getCurrentPath().getParentPath().getLeaf();
        boolean inside = around instanceof ClassTree;
        Set<Modifier> modifiers = tree.getModifiers().getFlags();
        if (around != unit && !inside) {
            breach("2", tree, "a local or anonymous class");
        }
        if (inside && !(modifiers.contains(Modifier.STATIC) && modifiers.contains(Modifier.PRIVATE))) {
            breach("2", tree, tree.getSimpleName() + " is not private and static");
        }
        long fields = tree.getMembers().stream().filter(Language::isFieldOfObjects).count();
        if (fields > MOST_FIELDS) {
            breach("11", tree, tree.getSimpleName() + " has " + fields + " fields");
        }
        return super.visitClass(tree, none);
    }

    private static boolean isFieldOfObjects(Tree member) {
        return member instanceof VariableTree v
                && !v.getModifiers().getFlags().contains(Modifier.STATIC);
    }

    /** Numbers in up to two dimensions; booleans and own classes in one; String alone. */
    private void lookAtType(Tree type) {
        String name = type == null ? "void" : type.toString();
        String base = name.replace("[]", "");
        int most = NUMBERS.contains(base) ? 2 : base.equals("boolean") || isOwn(base) ? 1 : 0;
        boolean known = most > 0 || base.equals("void") || base.equals("String");
        if (!known || name.length() > base.length() + most * "[]".length()) {
            breach("3", type, name);
        }
    }

    private boolean isOwn(String name) {
        ClassTree whole = (ClassTree) unit.getTypeDecls().get(0);
        return whole.getMembers().stream().anyMatch(
                member -> member instanceof ClassTree c && c.getSimpleName().contentEquals(name));
    }

    @Override
    public Void visitVariable(VariableTree tree, Void none) {
        lookAtType(tree.getType());
        Set<Modifier> modifiers = tree.getModifiers().getFlags();
        if (modifiers.contains(Modifier.STATIC)) {
            if (!modifiers.contains(Modifier.FINAL) || !CONSTANTS.contains(tree.getType().toString())) {
                breach("5", tree, tree.getName() + " is static and no constant");
            }
        }
        return super.visitVariable(tree, none);
    }

    @Override
    public Void visitBlock(BlockTree tree, Void none) {
        if (tree.isStatic()) {
            breach("5", tree, "a static initialiser");
        }
        return super.visitBlock(tree, none);
    }

    @Override
    public Void visitMethod(MethodTree tree, Void none) {
        SourcePositions places = trees.getSourcePositions();
        long lines = 1 + unit.getLineMap().getLineNumber(places.getEndPosition(unit, tree))
                - unit.getLineMap().getLineNumber(places.getStartPosition(unit, tree));
        if (lines > MOST_LINES) {
            breach("11", tree, tree.getName() + " has " + lines + " lines");
        }
        if (tree.getParameters().size() > MOST_PARAMETERS) {
            breach("11", tree, tree.getName() + " takes " + tree.getParameters().size());
        }
        lookAtType(tree.getReturnType());
        if (!tree.getThrows().isEmpty()) {
            breach("6", tree, tree.getName() + " throws");
        }
        return super.visitMethod(tree, none);
    }

    @Override
    public Void visitMethodInvocation(MethodInvocationTree tree, Void none) {
        Element called = trees.getElement(getCurrentPath());
        TypeElement owner = (TypeElement) called.getEnclosingElement();
        if (owner.getQualifiedName().toString().startsWith("SubflowExecutor")) {
            callsOf.computeIfAbsent(methodAround(), m -> new TreeSet<>(Language::byName)).add(called);
        } else if (!LIBRARY.contains(owner.getQualifiedName() + "." + called.getSimpleName())) {
            breach("4", tree, owner.getQualifiedName() + "." + called);
        }
        return super.visitMethodInvocation(tree, none);
    }

    private static int byName(Element a, Element b) {
        return nameOf(a).compareTo(nameOf(b));
    }

    private static String nameOf(Element method) {
        return method.getEnclosingElement() + "." + method;
    }

    private Element methodAround() {
        TreePath path = getCurrentPath();
        while (!(path.getLeaf() instanceof MethodTree) && !(path.getLeaf() instanceof ClassTree)) {
            path = path.getParentPath();
        }
        return trees.getElement(path);
    }

    @Override
    public Void visitNewClass(NewClassTree tree, Void none) {
        lookWhoMakes(tree);
        Element made = trees.getElement(getCurrentPath());
        if (!nameOf(made).startsWith("SubflowExecutor.")) {
            breach("4", tree, "makes a " + made.getEnclosingElement());
        }
        return super.visitNewClass(tree, none);
    }

    @Override
    public Void visitNewArray(NewArrayTree tree, Void none) {
        lookWhoMakes(tree);
        return super.visitNewArray(tree, none);
    }

    private void lookWhoMakes(Tree made) {
        if (methodAround().getKind() == ElementKind.METHOD) {
            breach("12", made, "made by a method that is no constructor");
        }
    }

    @Override
    public Void visitForLoop(ForLoopTree tree, Void none) {
        if (tree.getCondition() == null || tree.getUpdate().size() != 1) {
            breach("9", tree, "a for without a counter");
        }
        return super.visitForLoop(tree, none);
    }

    @Override
    public Void visitWhileLoop(WhileLoopTree tree, Void none) {
        breach("9", tree, "a while");
        return super.visitWhileLoop(tree, none);
    }

    @Override
    public Void visitDoWhileLoop(DoWhileLoopTree tree, Void none) {
        breach("9", tree, "a do");
        return super.visitDoWhileLoop(tree, none);
    }

    @Override
    public Void visitBinary(BinaryTree tree, Void none) {
        if (tree.getKind() == Tree.Kind.DIVIDE || tree.getKind() == Tree.Kind.REMAINDER) {
            breach("7", tree, "divides: " + tree);
        }
        if (trees.getTypeMirror(getCurrentPath()).toString().equals("java.lang.String")) {
            breach("10", tree, "joins texts: " + tree);
        }
        return super.visitBinary(tree, none);
    }

    @Override
    public Void visitLambdaExpression(LambdaExpressionTree tree, Void none) {
        breach("2", tree, "a lambda");
        return null;
    }

    @Override
    public Void visitMemberReference(MemberReferenceTree tree, Void none) {
        breach("2", tree, "a method reference");
        return null;
    }

    @Override
    public Void visitThrow(ThrowTree tree, Void none) {
        breach("6", tree, "a throw");
        return null;
    }

    @Override
    public Void visitTry(TryTree tree, Void none) {
        breach("6", tree, "a try");
        return null;
    }

    @Override
    public Void visitSynchronized(SynchronizedTree tree, Void none) {
        breach("6", tree, "synchronized");
        return null;
    }

    @Override
    public Void visitAssert(AssertTree tree, Void none) {
        breach("6", tree, "an assert");
        return null;
    }
}
