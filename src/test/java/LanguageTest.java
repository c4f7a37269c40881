import com.sun.source.tree.BinaryTree;
import com.sun.source.tree.ClassTree;
import com.sun.source.tree.CompilationUnitTree;
import com.sun.source.tree.EnhancedForLoopTree;
import com.sun.source.tree.ExpressionTree;
import com.sun.source.tree.ForLoopTree;
import com.sun.source.tree.ImportTree;
import com.sun.source.tree.MethodInvocationTree;
import com.sun.source.tree.MethodTree;
import com.sun.source.tree.NewClassTree;
import com.sun.source.tree.Tree;
import com.sun.source.tree.VariableTree;
import com.sun.source.tree.WhileLoopTree;
import com.sun.source.util.JavacTask;
import com.sun.source.util.TreePath;
import com.sun.source.util.TreePathScanner;
import com.sun.source.util.Trees;
import java.io.IOException;
import java.nio.file.Path;
import java.util.ArrayList;
import java.util.EnumSet;
import java.util.HashMap;
import java.util.HashSet;
import java.util.List;
import java.util.Map;
import java.util.Set;
import java.util.TreeMap;
import java.util.TreeSet;
import javax.lang.model.element.Element;
import javax.lang.model.element.ElementKind;
import javax.lang.model.element.Modifier;
import javax.lang.model.element.VariableElement;
import javax.lang.model.type.ArrayType;
import javax.lang.model.type.TypeKind;
import javax.lang.model.type.TypeMirror;
import javax.tools.JavaCompiler;
import javax.tools.StandardJavaFileManager;
import javax.tools.ToolProvider;

/**
 * The class keeps to LANGUAGE.md: javac reads the file, and each part of the tree that it makes of
 * it is held against the rules. Of the library and of types, only what the class needs is let
 * through, which is less than the rules leave. That no call throws or runs on without end (rules 7
 * and 9) can't be seen so: AnyArgumentsTest tries it. FaceTest has rule 1.
 */
public final class LanguageTest extends TreePathScanner<Void, Void> {
    private static final Path SOURCE = Path.of("src", "main", "java", "ScrubbedRecorder.java");
    private static final String CLASS = "ScrubbedRecorder";

    /** Rules 2 and 6: trees that are ruled out, or that a class without exceptions has no use for. */
    private static final Set<Tree.Kind> NEVER = EnumSet.of(
        Tree.Kind.LAMBDA_EXPRESSION, Tree.Kind.MEMBER_REFERENCE, Tree.Kind.ASSERT, Tree.Kind.SYNCHRONIZED,
        Tree.Kind.TRY, Tree.Kind.THROW, Tree.Kind.PACKAGE, Tree.Kind.ANNOTATION);

    private static final Set<TypeKind> NUMBERS = EnumSet.of(TypeKind.INT, TypeKind.LONG, TypeKind.SHORT,
        TypeKind.BYTE, TypeKind.CHAR, TypeKind.DOUBLE, TypeKind.FLOAT);

    /** Rule 4, without what works on texts: the class has none. */
    private static final Set<String> LIBRARY = Set.of(
        "java.util.ArrayList.<init>", "java.util.ArrayList.add", "java.util.ArrayList.get",
        "java.util.ArrayList.set", "java.util.ArrayList.remove", "java.util.ArrayList.size",
        "java.util.ArrayList.isEmpty", "java.util.ArrayList.clear",
        "java.lang.Math.min", "java.lang.Math.max", "java.lang.Math.abs",
        "java.lang.Integer.bitCount", "java.lang.Long.bitCount",
        "java.lang.System.arraycopy", "java.util.Arrays.fill", "java.lang.Object.<init>");

    private static final int MOST_PARAMETERS = 7;
    private static final int MOST_LINES = 60;
    private static final int MOST_DEPTH = 8;
    private static final int MOST_CLASSES = 12;
    private static final int MOST_FIELDS = 20;

    private final Trees trees;
    private final CompilationUnitTree file;
    private final Map<String, Set<String>> calls = new TreeMap<>();
    private final Map<String, Integer> fields = new HashMap<>();
    private int classes;
    private int broken;

    private LanguageTest(Trees trees, CompilationUnitTree file) {
        this.trees = trees;
        this.file = file;
    }

    public static void main(String[] args) throws IOException {
        JavaCompiler compiler = ToolProvider.getSystemJavaCompiler();
        try (StandardJavaFileManager files = compiler.getStandardFileManager(null, null, null)) {
            JavacTask task = (JavacTask) compiler.getTask(null, files, null,
                List.of("--release", "17", "-proc:none"), null, files.getJavaFileObjects(SOURCE));
            List<CompilationUnitTree> read = new ArrayList<>();
            task.parse().forEach(read::add);
            task.analyze();
            LanguageTest test = new LanguageTest(Trees.instance(task), read.get(0));
            test.scan(read.get(0), null);
            test.end();
        }
    }

    private void end() {
        hold("rule 11: " + classes + " classes", classes <= MOST_CLASSES);
        for (Map.Entry<String, Integer> entry : fields.entrySet()) {
            hold("rule 11: " + entry.getKey() + " has " + entry.getValue() + " fields", entry.getValue() <= MOST_FIELDS);
        }
        for (String method : calls.keySet()) {
            int depth = depth(method, new HashSet<>());
            hold("rule 11: " + method + " goes " + depth + " calls deep", depth <= MOST_DEPTH);
        }
        if (broken != 0) {
            System.exit(1);
        }
    }

    private void hold(String what, boolean holds) {
        if (!holds) {
            broken++;
            System.out.println("LANGUAGE.md, " + what);
        }
    }

    /** How many calls stand open at most, the class having no recursion. */
    private int depth(String method, Set<String> open) {
        if (!open.add(method)) {
            hold("rule 8: " + method + " calls itself", false);
            return 0;
        }
        int deepest = 0;
        for (String called : calls.getOrDefault(method, Set.of())) {
            deepest = Math.max(deepest, depth(called, open));
        }
        open.remove(method);
        return deepest + 1;
    }

    private void check(String rule, Tree tree, boolean holds) {
        long line = file.getLineMap().getLineNumber(trees.getSourcePositions().getStartPosition(file, tree));
        hold(rule + ", in line " + line, holds);
    }

    @Override
    public Void scan(Tree tree, Void none) {
        if (tree != null) {
            check("rules 2 and 6, a tree of the kind " + tree.getKind(), tree, !NEVER.contains(tree.getKind()));
        }
        return super.scan(tree, none);
    }

    @Override
    public Void visitImport(ImportTree tree, Void none) {
        String name = tree.getQualifiedIdentifier().toString();
        check("rule 4, import", tree, !tree.isStatic() && Set.of("java.util.ArrayList", "java.util.Arrays").contains(name));
        return null;
    }

    @Override
    public Void visitClass(ClassTree tree, Void none) {
        Element element = trees.getElement(getCurrentPath());
        Set<Modifier> modifiers = element.getModifiers();
        classes++;
        if (element.getSimpleName().contentEquals(CLASS)) {
            check("rule 1, the class of the document", tree, modifiers.equals(EnumSet.of(Modifier.PUBLIC, Modifier.FINAL)));
        } else {
            boolean seen = modifiers.contains(Modifier.PUBLIC) || modifiers.contains(Modifier.PROTECTED);
            check("rule 2, a class inside", tree, modifiers.contains(Modifier.STATIC) && !seen);
        }
        for (Tree member : tree.getMembers()) {
            check("rule 5, a block", member, member.getKind() != Tree.Kind.BLOCK);
        }
        return super.visitClass(tree, none);
    }

    @Override
    public Void visitVariable(VariableTree tree, Void none) {
        Element element = trees.getElement(getCurrentPath());
        check("rule 3, type " + element.asType(), tree, isAllowed(element.asType()));
        if (element.getKind() == ElementKind.FIELD) {
            if (element.getModifiers().contains(Modifier.STATIC)) {
                boolean constant = element.getModifiers().contains(Modifier.FINAL)
                    && ((VariableElement) element).getConstantValue() != null;
                check("rule 5, a static field", tree, constant);
            } else {
                fields.merge(element.getEnclosingElement().toString(), 1, Integer::sum);
            }
        }
        return super.visitVariable(tree, none);
    }

    private boolean isAllowed(TypeMirror type) {
        if (NUMBERS.contains(type.getKind()) || type.getKind() == TypeKind.BOOLEAN) {
            return true;
        }
        if (type.getKind() == TypeKind.ARRAY) {
            TypeMirror part = ((ArrayType) type).getComponentType();
            boolean rows = part.getKind() == TypeKind.ARRAY
                && NUMBERS.contains(((ArrayType) part).getComponentType().getKind());
            return rows || (part.getKind() != TypeKind.ARRAY && isAllowed(part));
        }
        String name = type.toString();
        return isOwn(name) || (name.startsWith("java.util.ArrayList<") && isOwn(name.substring(20, name.length() - 1)));
    }

    private static boolean isOwn(String name) {
        return name.equals(CLASS) || name.startsWith(CLASS + ".");
    }

    @Override
    public Void visitMethod(MethodTree tree, Void none) {
        check("rule 11, parameters", tree, tree.getParameters().size() <= MOST_PARAMETERS);
        check("rule 11, lines", tree, lines(tree) <= MOST_LINES);
        Element element = trees.getElement(getCurrentPath());
        calls.putIfAbsent(nameOf(element), new TreeSet<>());
        return super.visitMethod(tree, none);
    }

    private long lines(Tree tree) {
        long start = trees.getSourcePositions().getStartPosition(file, tree);
        long end = trees.getSourcePositions().getEndPosition(file, tree);
        return end < 0 ? 0 : file.getLineMap().getLineNumber(end) - file.getLineMap().getLineNumber(start) + 1;
    }

    @Override
    public Void visitMethodInvocation(MethodInvocationTree tree, Void none) {
        called(tree);
        return super.visitMethodInvocation(tree, none);
    }

    @Override
    public Void visitNewClass(NewClassTree tree, Void none) {
        check("rule 2, a class without a name", tree, tree.getClassBody() == null);
        called(tree);
        return super.visitNewClass(tree, none);
    }

    private void called(Tree tree) {
        Element element = trees.getElement(getCurrentPath());
        String name = nameOf(element);
        if (isOwn(name)) {
            Element caller = callerOf(getCurrentPath());
            calls.computeIfAbsent(caller == null ? CLASS : nameOf(caller), any -> new TreeSet<>()).add(name);
        } else {
            check("rule 4, " + name, tree, LIBRARY.contains(name));
        }
    }

    private static String nameOf(Element method) {
        return method.getEnclosingElement() + "." + method.getSimpleName();
    }

    private Element callerOf(TreePath path) {
        TreePath at = path;
        while (at != null && at.getLeaf().getKind() != Tree.Kind.METHOD) {
            at = at.getParentPath();
        }
        return at == null ? null : trees.getElement(at);
    }

    @Override
    public Void visitForLoop(ForLoopTree tree, Void none) {
        check("rule 9, a loop without a bound", tree, tree.getCondition() != null && !tree.getUpdate().isEmpty());
        return super.visitForLoop(tree, none);
    }

    @Override
    public Void visitWhileLoop(WhileLoopTree tree, Void none) {
        boolean constant = tree.getCondition().toString().equals("(true)");
        check("rule 9, a loop without a bound", tree, !constant);
        return super.visitWhileLoop(tree, none);
    }

    @Override
    public Void visitEnhancedForLoop(EnhancedForLoopTree tree, Void none) {
        TypeMirror type = trees.getTypeMirror(new TreePath(getCurrentPath(), tree.getExpression()));
        check("rule 12, a loop over a list without an index", tree, type.getKind() == TypeKind.ARRAY);
        return super.visitEnhancedForLoop(tree, none);
    }

    @Override
    public Void visitBinary(BinaryTree tree, Void none) {
        check("rules 6 and 10, texts", tree, !isText(tree.getLeftOperand()) && !isText(tree.getRightOperand()));
        boolean divides = tree.getKind() == Tree.Kind.DIVIDE || tree.getKind() == Tree.Kind.REMAINDER;
        check("rule 7, a divisor that is no constant", tree, !divides || isConstant(tree.getRightOperand()));
        return super.visitBinary(tree, none);
    }

    private boolean isConstant(ExpressionTree operand) {
        Element element = trees.getElement(new TreePath(getCurrentPath(), operand));
        return element instanceof VariableElement && ((VariableElement) element).getConstantValue() != null;
    }

    private boolean isText(Tree operand) {
        TypeMirror type = trees.getTypeMirror(new TreePath(getCurrentPath(), operand));
        return type != null && type.toString().startsWith("java.lang.");
    }
}
