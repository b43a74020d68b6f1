import com.sun.source.tree.AssertTree;
import com.sun.source.tree.BinaryTree;
import com.sun.source.tree.BlockTree;
import com.sun.source.tree.ClassTree;
import com.sun.source.tree.CompilationUnitTree;
import com.sun.source.tree.ImportTree;
import com.sun.source.tree.LambdaExpressionTree;
import com.sun.source.tree.MemberReferenceTree;
import com.sun.source.tree.MethodInvocationTree;
import com.sun.source.tree.MethodTree;
import com.sun.source.tree.NewArrayTree;
import com.sun.source.tree.NewClassTree;
import com.sun.source.tree.SynchronizedTree;
import com.sun.source.tree.ThrowTree;
import com.sun.source.tree.Tree;
import com.sun.source.tree.TryTree;
import com.sun.source.tree.TypeCastTree;
import com.sun.source.tree.VariableTree;
import com.sun.source.util.JavacTask;
import com.sun.source.util.TreePath;
import com.sun.source.util.TreePathScanner;
import com.sun.source.util.Trees;
import java.io.IOException;
import java.nio.file.Files;
import java.nio.file.Path;
import java.util.ArrayDeque;
import java.util.Deque;
import java.util.LinkedHashMap;
import java.util.LinkedHashSet;
import java.util.List;
import java.util.Map;
import java.util.Set;
import java.util.TreeSet;
import javax.lang.model.element.Element;
import javax.lang.model.element.ElementKind;
import javax.lang.model.element.ExecutableElement;
import javax.lang.model.element.Modifier;
import javax.lang.model.element.TypeElement;
import javax.lang.model.type.TypeMirror;
import javax.tools.JavaCompiler;
import javax.tools.StandardJavaFileManager;
import javax.tools.ToolProvider;

/**
 * The rules of LANGUAGE.md that can be read off the source, by their numbers. Where a rule leaves more than the class needs, the test
 * holds it to what it needs: no recursion, no lists, and nothing is made but by constructors.
 */
public final class LanguageTest extends TreePathScanner<Void, Void> {
    private static final String SOURCE = "src/main/java/FlightLegs.java";
    private static final int MOST_CLASSES = 12, MOST_FIELDS = 20, MOST_PARAMETERS = 7, MOST_LINES = 60, MOST_DEPTH = 8;
    private static final Set<String> IMPORTS = Set.of("java.util.Arrays", "java.util.ArrayList", "java.util.List",
        "java.util.Iterator");
    private static final Set<String> TYPES = Set.of("int", "long", "boolean", "int[]", "java.lang.String", "void");
    private static final Set<String> STATIC_TYPES = Set.of("int", "long", "boolean", "char", "java.lang.String", "int[]");
    private static final Set<String> LIBRARY = Set.of("Math.max", "Math.min", "Math.abs", "System.arraycopy", "Arrays.fill",
        "String.length", "String.charAt", "Object.<init>");

    private final Trees trees;
    private final CompilationUnitTree unit;
    private final Set<Element> classes = new LinkedHashSet<>();
    private final Map<Element, Set<Element>> calls = new LinkedHashMap<>();
    private final Set<String> faults = new TreeSet<>();

    private LanguageTest(Trees trees, CompilationUnitTree unit) {
        this.trees = trees;
        this.unit = unit;
    }

    public static void main(String[] args) throws IOException {
        String source = args.length > 0 ? args[0] : SOURCE;
        JavaCompiler compiler = ToolProvider.getSystemJavaCompiler();
        try (StandardJavaFileManager files = compiler.getStandardFileManager(null, null, null)) {
            JavacTask task = (JavacTask) compiler.getTask(null, files, null, List.of("-proc:none"), null,
                files.getJavaFileObjects(Path.of(source)));
            CompilationUnitTree unit = task.parse().iterator().next();
            task.analyze();
            new LanguageTest(Trees.instance(task), unit).check();
        }
        lettersOf(source);
        Script.end();
    }

    private static void lettersOf(String source) throws IOException {
        long odd = Files.readString(Path.of(source)).chars().filter(c -> c > 127).count();
        Script.due("rule 4: signs above 127 in the source", (int) odd, 0);
    }

    private void check() {
        findClasses();
        scan(new TreePath(unit), null);
        Script.due("one class at the top", unit.getTypeDecls().size(), 1);
        Script.due("no package line", unit.getPackageName() == null ? 1 : 0, 1);
        faults.forEach(fault -> Script.due(fault, 1, 0));
        Script.due("rule 11: classes above " + MOST_CLASSES, Math.max(0, classes.size() - MOST_CLASSES), 0);
        for (Element method : calls.keySet()) {
            int depth = depthOf(method, new ArrayDeque<>());
            Script.due("rule 11: " + nameOf(method) + " calls " + depth + " deep", Math.max(depth, MOST_DEPTH), MOST_DEPTH);
        }
    }

    /** All classes must be known before the bodies are read. */
    private void findClasses() {
        new TreePathScanner<Void, Void>() {
            @Override
            public Void visitClass(ClassTree tree, Void none) {
                classes.add(trees.getElement(getCurrentPath()));
                return super.visitClass(tree, none);
            }
        }.scan(new TreePath(unit), null);
    }

    private void fault(String text) {
        faults.add(text);
    }

    private void faultUnless(boolean kept, String text) {
        if (!kept) {
            fault(text);
        }
    }

    private void refuse(Tree tree, String rule) {
        fault(rule + ": line " + lineOf(trees.getSourcePositions().getStartPosition(unit, tree)));
    }

    private long lineOf(long position) {
        return unit.getLineMap().getLineNumber(position);
    }

    private static String nameOf(Element element) {
        return element.getEnclosingElement().getSimpleName() + "." + element.getSimpleName();
    }

    private boolean isOwn(TypeMirror type) {
        return classes.stream().anyMatch(own -> own.asType().toString().equals(type.toString()));
    }

    // ---- rules 1, 2, 5 and 11: classes and fields

    @Override
    public Void visitImport(ImportTree tree, Void none) {
        String name = tree.getQualifiedIdentifier().toString();
        faultUnless(IMPORTS.contains(name) && !tree.isStatic(), "rule 4: import of " + name);
        return null;
    }

    @Override
    public Void visitClass(ClassTree tree, Void none) {
        TypeElement type = (TypeElement) trees.getElement(getCurrentPath());
        String name = type.getSimpleName().toString();
        boolean inside = type.getEnclosingElement().getKind() == ElementKind.CLASS;
        Set<Modifier> modifiers = type.getModifiers();
        boolean top = name.equals("FlightLegs") && modifiers.contains(Modifier.PUBLIC) && modifiers.contains(Modifier.FINAL);
        boolean hidden = !modifiers.contains(Modifier.PUBLIC) && !modifiers.contains(Modifier.PROTECTED);
        faultUnless(inside ? hidden && modifiers.contains(Modifier.STATIC) : top, "rules 1 and 2: the class " + name);
        long fields = type.getEnclosedElements().stream()
            .filter(member -> member.getKind() == ElementKind.FIELD && !member.getModifiers().contains(Modifier.STATIC)).count();
        faultUnless(fields <= MOST_FIELDS, "rule 11: " + fields + " fields in " + name);
        return super.visitClass(tree, none);
    }

    @Override
    public Void visitBlock(BlockTree tree, Void none) {
        if (getCurrentPath().getParentPath().getLeaf() instanceof ClassTree) {
            refuse(tree, "rule 5: a block of a class");
        }
        return super.visitBlock(tree, none);
    }

    @Override
    public Void visitVariable(VariableTree tree, Void none) {
        Element variable = trees.getElement(getCurrentPath());
        TypeMirror type = variable.asType();
        faultUnless(TYPES.contains(type.toString()) || isOwn(type), "rule 3: " + type + " " + variable);
        if (variable.getKind() == ElementKind.FIELD && variable.getModifiers().contains(Modifier.STATIC)) {
            boolean constant = variable.getModifiers().contains(Modifier.FINAL) && STATIC_TYPES.contains(type.toString());
            faultUnless(constant, "rule 5: the static field " + nameOf(variable));
            boolean writtenOut = tree.getInitializer() instanceof NewArrayTree row && row.getInitializers() != null;
            faultUnless(!type.toString().endsWith("[]") || writtenOut, "rule 5: the row " + nameOf(variable));
        }
        return super.visitVariable(tree, none);
    }

    // ---- rule 11: methods; rules 4, 8 and 12: what they call and make

    @Override
    public Void visitMethod(MethodTree tree, Void none) {
        ExecutableElement method = (ExecutableElement) trees.getElement(getCurrentPath());
        calls.putIfAbsent(method, new LinkedHashSet<>());
        TypeMirror answer = method.getReturnType();
        faultUnless(TYPES.contains(answer.toString()) || isOwn(answer), "rule 3: " + nameOf(method) + " returns " + answer);
        faultUnless(tree.getParameters().size() <= MOST_PARAMETERS, "rule 11: parameters of " + nameOf(method));
        long first = lineOf(trees.getSourcePositions().getStartPosition(unit, tree));
        long last = lineOf(trees.getSourcePositions().getEndPosition(unit, tree));
        faultUnless(last - first < MOST_LINES, "rule 11: lines of " + nameOf(method));
        return super.visitMethod(tree, none);
    }

    /** The method or constructor around the present place; null for what a class gives its fields at first. */
    private Element caller() {
        for (TreePath path = getCurrentPath(); path != null; path = path.getParentPath()) {
            if (path.getLeaf() instanceof MethodTree) {
                return trees.getElement(path);
            }
        }
        return null;
    }

    private void noteCall(Element called) {
        if (!classes.contains(called.getEnclosingElement())) {
            faultUnless(LIBRARY.contains(nameOf(called)), "rule 4: " + nameOf(called) + " of the library");
            return;
        }
        Element caller = caller();
        if (caller != null) {
            calls.computeIfAbsent(caller, key -> new LinkedHashSet<>()).add(called);
        }
    }

    @Override
    public Void visitMethodInvocation(MethodInvocationTree tree, Void none) {
        noteCall(trees.getElement(getCurrentPath()));
        return super.visitMethodInvocation(tree, none);
    }

    @Override
    public Void visitNewClass(NewClassTree tree, Void none) {
        faultUnless(tree.getClassBody() == null, "rule 2: an anonymous class");
        noteCall(trees.getElement(getCurrentPath()));
        onlyInConstructor(tree);
        return super.visitNewClass(tree, none);
    }

    @Override
    public Void visitNewArray(NewArrayTree tree, Void none) {
        onlyInConstructor(tree);
        return super.visitNewArray(tree, none);
    }

    private void onlyInConstructor(Tree tree) {
        Element caller = caller();
        if (caller != null && caller.getKind() != ElementKind.CONSTRUCTOR) {
            refuse(tree, "rule 12: made outside a constructor");
        }
    }

    private int depthOf(Element method, Deque<Element> open) {
        if (open.contains(method)) {
            Script.due("rule 8: " + nameOf(method) + " calls itself", 1, 0);
            return 0;
        }
        open.push(method);
        int deepest = 0;
        for (Element called : calls.getOrDefault(method, Set.of())) {
            deepest = Math.max(deepest, depthOf(called, open));
        }
        open.pop();
        return deepest + 1;
    }

    // ---- rules 2 and 6: what is not written at all

    @Override
    public Void visitThrow(ThrowTree tree, Void none) {
        refuse(tree, "rule 6: throw");
        return super.visitThrow(tree, none);
    }

    @Override
    public Void visitTry(TryTree tree, Void none) {
        refuse(tree, "rule 6: try");
        return super.visitTry(tree, none);
    }

    @Override
    public Void visitSynchronized(SynchronizedTree tree, Void none) {
        refuse(tree, "rule 6: synchronized");
        return super.visitSynchronized(tree, none);
    }

    @Override
    public Void visitAssert(AssertTree tree, Void none) {
        refuse(tree, "rule 6: assert");
        return super.visitAssert(tree, none);
    }

    @Override
    public Void visitLambdaExpression(LambdaExpressionTree tree, Void none) {
        refuse(tree, "rule 2: a lambda");
        return super.visitLambdaExpression(tree, none);
    }

    @Override
    public Void visitMemberReference(MemberReferenceTree tree, Void none) {
        refuse(tree, "rule 2: a method reference");
        return super.visitMemberReference(tree, none);
    }

    /** Casts of numbers alone: one among classes would need a test before it. */
    @Override
    public Void visitTypeCast(TypeCastTree tree, Void none) {
        faultUnless(tree.getType().getKind() == Tree.Kind.PRIMITIVE_TYPE, "rule 6: a cast to " + tree.getType());
        return super.visitTypeCast(tree, none);
    }

    @Override
    public Void visitBinary(BinaryTree tree, Void none) {
        boolean compares = tree.getKind() == Tree.Kind.EQUAL_TO || tree.getKind() == Tree.Kind.NOT_EQUAL_TO;
        TypeMirror left = trees.getTypeMirror(new TreePath(getCurrentPath(), tree.getLeftOperand()));
        TypeMirror right = trees.getTypeMirror(new TreePath(getCurrentPath(), tree.getRightOperand()));
        boolean texts = left.toString().equals("java.lang.String") || right.toString().equals("java.lang.String");
        if (texts) {
            refuse(tree, compares ? "rule 6: == of texts" : "rule 10: texts joined by +");
        }
        return super.visitBinary(tree, none);
    }
}
