import com.sun.source.tree.AnnotationTree;
import com.sun.source.tree.AssertTree;
import com.sun.source.tree.BinaryTree;
import com.sun.source.tree.BlockTree;
import com.sun.source.tree.ClassTree;
import com.sun.source.tree.CompilationUnitTree;
import com.sun.source.tree.CompoundAssignmentTree;
import com.sun.source.tree.DoWhileLoopTree;
import com.sun.source.tree.ExpressionTree;
import com.sun.source.tree.ForLoopTree;
import com.sun.source.tree.ImportTree;
import com.sun.source.tree.InstanceOfTree;
import com.sun.source.tree.LambdaExpressionTree;
import com.sun.source.tree.LiteralTree;
import com.sun.source.tree.MemberReferenceTree;
import com.sun.source.tree.MethodInvocationTree;
import com.sun.source.tree.MethodTree;
import com.sun.source.tree.ModifiersTree;
import com.sun.source.tree.NewArrayTree;
import com.sun.source.tree.NewClassTree;
import com.sun.source.tree.PackageTree;
import com.sun.source.tree.SynchronizedTree;
import com.sun.source.tree.ThrowTree;
import com.sun.source.tree.Tree;
import com.sun.source.tree.TryTree;
import com.sun.source.tree.TypeCastTree;
import com.sun.source.tree.VariableTree;
import com.sun.source.tree.WhileLoopTree;
import com.sun.source.util.JavacTask;
import com.sun.source.util.TreePath;
import com.sun.source.util.TreePathScanner;
import com.sun.source.util.Trees;
import java.io.IOException;
import java.nio.file.Path;
import java.util.ArrayList;
import java.util.HashMap;
import java.util.List;
import java.util.Map;
import java.util.Set;
import java.util.TreeSet;
import java.util.regex.Pattern;
import javax.lang.model.element.Element;
import javax.lang.model.element.ElementKind;
import javax.lang.model.element.Modifier;
import javax.lang.model.element.VariableElement;
import javax.lang.model.type.TypeMirror;
import javax.tools.JavaCompiler;
import javax.tools.StandardJavaFileManager;
import javax.tools.ToolProvider;

/**
 * The source keeps to those rules of LANGUAGE.md that can be seen in it. It is held to what the
 * class uses of the language today, which is less than the rules leave; who needs more of what a
 * rule leaves may widen the test up to the rule.
 */
public final class LanguageTest extends TreePathScanner<Void, Void> {
    private static final String SOURCE = "src/main/java/BookmobileRadio.java";
    private static final Set<String> EXCEPTIONS = Set.of("IllegalStateException",
            "IllegalArgumentException", "IndexOutOfBoundsException");
    private static final Set<String> LIBRARY = Set.of("System.arraycopy", "Math.min", "Math.max",
            "Integer.bitCount", "String.length", "String.charAt");
    private static final Pattern TYPES =
            Pattern.compile("(int|boolean|float|double|void|BookmobileRadio\\.\\w+)(\\[\\])?|java\\.lang\\.String");
    private static final int MOST_PARAMETERS = 7;
    private static final int MOST_LINES = 60;
    private static final int MOST_DEPTH = 8;
    private static final int MOST_CLASSES = 12;
    private static final int MOST_FIELDS = 20;

    private final CompilationUnitTree unit;
    private final Trees trees;
    private final Map<String, Set<String>> calls = new HashMap<>();
    private final List<String> open = new ArrayList<>();
    private int classes;

    private LanguageTest(CompilationUnitTree unit, Trees trees) {
        this.unit = unit;
        this.trees = trees;
    }

    public static void main(String[] args) throws IOException {
        JavaCompiler compiler = ToolProvider.getSystemJavaCompiler();
        try (StandardJavaFileManager files = compiler.getStandardFileManager(null, null, null)) {
            JavacTask task = (JavacTask) compiler.getTask(null, files, null,
                    List.of("--release", "17"), null, files.getJavaFileObjects(Path.of(SOURCE)));
            CompilationUnitTree unit = task.parse().iterator().next();
            task.analyze();
            LanguageTest test = new LanguageTest(unit, Trees.instance(task));
            test.scan(unit, null);
            test.depths();
        }
        Check.end();
    }

    private void tell(int rule, Tree tree, String what) {
        long start = trees.getSourcePositions().getStartPosition(unit, tree);
        Check.tell("rule " + rule + ", line " + unit.getLineMap().getLineNumber(start) + ": " + what);
    }

    private boolean isWithin(Tree.Kind kind) {
        for (TreePath path = getCurrentPath(); path != null; path = path.getParentPath()) {
            if (path.getLeaf().getKind() == kind) {
                return true;
            }
        }
        return false;
    }

    /** The method round this place; null in the initialiser of a field. */
    private MethodTree method() {
        for (TreePath path = getCurrentPath(); path != null; path = path.getParentPath()) {
            if (path.getLeaf() instanceof MethodTree) {
                return (MethodTree) path.getLeaf();
            }
        }
        return null;
    }

    private Element element(Tree tree) {
        return trees.getElement(TreePath.getPath(unit, tree));
    }

    private TypeMirror type(Tree tree) {
        return trees.getTypeMirror(TreePath.getPath(unit, tree));
    }

    // ---- rules 1 and 2: one file, one public class, classes inside it

    @Override
    public Void visitPackage(PackageTree tree, Void none) {
        tell(0, tree, "a package line");
        return super.visitPackage(tree, none);
    }

    @Override
    public Void visitImport(ImportTree tree, Void none) {
        tell(4, tree, "an import");
        return super.visitImport(tree, none);
    }

    @Override
    public Void visitClass(ClassTree tree, Void none) {
        classes++;
        if (classes > MOST_CLASSES) {
            tell(11, tree, "more than " + MOST_CLASSES + " classes");
        }
        Set<Modifier> modifiers = tree.getModifiers().getFlags();
        Set<Modifier> due = getCurrentPath().getParentPath().getLeaf() == unit
                ? Set.of(Modifier.PUBLIC, Modifier.FINAL)
                : Set.of(Modifier.PRIVATE, Modifier.STATIC, Modifier.FINAL);
        if (!modifiers.equals(due) || tree.getKind() != Tree.Kind.CLASS
                || tree.getExtendsClause() != null || !tree.getImplementsClause().isEmpty()) {
            tell(1, tree, "the class " + tree.getSimpleName() + " is " + modifiers);
        }
        int fields = 0;
        for (Tree member : tree.getMembers()) {
            if (member instanceof VariableTree && !isStatic(((VariableTree) member).getModifiers())) {
                fields++;
            }
            if (member instanceof BlockTree) {
                tell(5, member, "an initialiser block");
            }
        }
        if (fields > MOST_FIELDS) {
            tell(11, tree, fields + " fields");
        }
        return super.visitClass(tree, none);
    }

    private static boolean isStatic(ModifiersTree modifiers) {
        return modifiers.getFlags().contains(Modifier.STATIC);
    }

    @Override
    public Void visitAnnotation(AnnotationTree tree, Void none) {
        tell(2, tree, "an annotation");
        return super.visitAnnotation(tree, none);
    }

    @Override
    public Void visitLambdaExpression(LambdaExpressionTree tree, Void none) {
        tell(2, tree, "a lambda");
        return super.visitLambdaExpression(tree, none);
    }

    @Override
    public Void visitMemberReference(MemberReferenceTree tree, Void none) {
        tell(2, tree, "a method reference");
        return super.visitMemberReference(tree, none);
    }

    // ---- rules 3 to 5: types, the library, static state

    @Override
    public Void visitVariable(VariableTree tree, Void none) {
        if (!TYPES.matcher(type(tree).toString()).matches()) {
            tell(3, tree, "the type " + type(tree));
        }
        if (isStatic(tree.getModifiers())) {
            VariableElement constant = (VariableElement) element(tree);
            if (constant.getConstantValue() == null) {
                tell(5, tree, tree.getName() + " is no constant");
            }
        }
        return super.visitVariable(tree, none);
    }

    @Override
    public Void visitTypeCast(TypeCastTree tree, Void none) {
        if (!type(tree).getKind().isPrimitive()) {
            tell(6, tree, "a cast to " + type(tree));
        }
        return super.visitTypeCast(tree, none);
    }

    @Override
    public Void visitMethodInvocation(MethodInvocationTree tree, Void none) {
        Element called = element(tree.getMethodSelect());
        String owner = called.getEnclosingElement().toString();
        if (owner.startsWith("BookmobileRadio")) {
            if (!open.isEmpty()) {
                calls.get(open.get(open.size() - 1)).add(name(called));
            }
        } else if (called.getKind() != ElementKind.CONSTRUCTOR
                && !LIBRARY.contains(owner.replace("java.lang.", "") + "." + called.getSimpleName())) {
            tell(4, tree, "a call of " + owner + "." + called);
        }
        return super.visitMethodInvocation(tree, none);
    }

    @Override
    public Void visitBinary(BinaryTree tree, Void none) {
        noText(tree, type(tree));
        return super.visitBinary(tree, none);
    }

    @Override
    public Void visitCompoundAssignment(CompoundAssignmentTree tree, Void none) {
        noText(tree, type(tree));
        return super.visitCompoundAssignment(tree, none);
    }

    private void noText(Tree tree, TypeMirror type) {
        if (type.toString().equals("java.lang.String")) {
            tell(10, tree, "texts are joined by +");
        }
    }

    @Override
    public Void visitLiteral(LiteralTree tree, Void none) {
        String text = String.valueOf(tree.getValue());
        if (!text.chars().allMatch(sign -> sign >= 1 && sign <= 127)) {
            tell(4, tree, "a constant with other signs than 1 to 127");
        }
        return super.visitLiteral(tree, none);
    }

    // ---- rule 6: exceptions

    @Override
    public Void visitThrow(ThrowTree tree, Void none) {
        ExpressionTree thrown = tree.getExpression();
        if (!(thrown instanceof NewClassTree)) {
            tell(6, tree, "a throw of no new exception");
            return super.visitThrow(tree, none);
        }
        NewClassTree made = (NewClassTree) thrown;
        boolean written = made.getArguments().size() == 1
                && made.getArguments().get(0).getKind() == Tree.Kind.STRING_LITERAL;
        if (!EXCEPTIONS.contains(made.getIdentifier().toString())
                || !written && !made.getArguments().isEmpty()) {
            tell(6, tree, "throw " + made);
        }
        if (method() == null || method().getReturnType() == null) {
            tell(6, tree, "a throw in a constructor");
        }
        return super.visitThrow(tree, none);
    }

    @Override
    public Void visitTry(TryTree tree, Void none) {
        tell(6, tree, "a try");
        return super.visitTry(tree, none);
    }

    @Override
    public Void visitSynchronized(SynchronizedTree tree, Void none) {
        tell(6, tree, "synchronized");
        return super.visitSynchronized(tree, none);
    }

    @Override
    public Void visitAssert(AssertTree tree, Void none) {
        tell(6, tree, "assert");
        return super.visitAssert(tree, none);
    }

    @Override
    public Void visitInstanceOf(InstanceOfTree tree, Void none) {
        tell(6, tree, "instanceof");
        return super.visitInstanceOf(tree, none);
    }

    // ---- rules 8 and 9: no recursion, and loops with an end that can be seen

    private static String name(Element method) {
        return method.getEnclosingElement() + "." + method;
    }

    private void depths() {
        for (String method : new TreeSet<>(calls.keySet())) {
            int depth = depth(method, new ArrayList<>());
            if (depth > MOST_DEPTH) {
                Check.tell("rule 11: calls that go " + depth + " deep from " + method);
            }
        }
        if (calls.size() < 100) {
            Check.tell("only " + calls.size() + " methods were looked at");
        }
    }

    private int depth(String method, List<String> above) {
        if (above.contains(method)) {
            Check.tell("rule 8: " + method + " calls itself");
            return 0;
        }
        above.add(method);
        int deepest = 0;
        for (String called : calls.getOrDefault(method, Set.of())) {
            deepest = Math.max(deepest, depth(called, above));
        }
        above.remove(method);
        return deepest + 1;
    }

    @Override
    public Void visitForLoop(ForLoopTree tree, Void none) {
        bounded(tree, tree.getCondition());
        return super.visitForLoop(tree, none);
    }

    @Override
    public Void visitWhileLoop(WhileLoopTree tree, Void none) {
        bounded(tree, tree.getCondition());
        return super.visitWhileLoop(tree, none);
    }

    @Override
    public Void visitDoWhileLoop(DoWhileLoopTree tree, Void none) {
        bounded(tree, tree.getCondition());
        return super.visitDoWhileLoop(tree, none);
    }

    /** A counter against a bound stands first in the condition. */
    private void bounded(Tree loop, ExpressionTree condition) {
        if (condition == null || !condition.toString().matches("\\(?\\w+ (<|<=|>|>=) .*")) {
            tell(9, loop, "a loop without a counter against a bound");
        }
    }

    // ---- rules 11 and 12: sizes, and objects made in constructors alone

    @Override
    public Void visitMethod(MethodTree tree, Void none) {
        if (tree.getParameters().size() > MOST_PARAMETERS) {
            tell(11, tree, tree.getName() + " has too many parameters");
        }
        long first = line(trees.getSourcePositions().getStartPosition(unit, tree));
        long last = line(trees.getSourcePositions().getEndPosition(unit, tree));
        if (last - first + 1 > MOST_LINES) {
            tell(11, tree, tree.getName() + " has " + (last - first + 1) + " lines");
        }
        if (Set.of("equals", "hashCode", "toString", "finalize").contains(tree.getName().toString())) {
            tell(6, tree, "a " + tree.getName() + " of its own");
        }
        open.add(name(element(tree)));
        calls.put(name(element(tree)), new TreeSet<>());
        super.visitMethod(tree, none);
        open.remove(open.size() - 1);
        return null;
    }

    private long line(long position) {
        return position < 0 ? 0 : unit.getLineMap().getLineNumber(position);
    }

    @Override
    public Void visitNewClass(NewClassTree tree, Void none) {
        if (tree.getClassBody() != null) {
            tell(2, tree, "an anonymous class");
        }
        if (!isWithin(Tree.Kind.THROW)) {
            made(tree);
        }
        return super.visitNewClass(tree, none);
    }

    @Override
    public Void visitNewArray(NewArrayTree tree, Void none) {
        made(tree);
        return super.visitNewArray(tree, none);
    }

    /** No call makes an object but for an exception: all rows are made once, and used again. */
    private void made(Tree tree) {
        if (method() != null && method().getReturnType() != null) {
            tell(12, tree, tree + " outside a constructor");
        }
    }
}
