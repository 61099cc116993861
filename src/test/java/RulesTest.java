import com.sun.source.tree.AnnotationTree;
import com.sun.source.tree.ArrayAccessTree;
import com.sun.source.tree.AssertTree;
import com.sun.source.tree.BinaryTree;
import com.sun.source.tree.BlockTree;
import com.sun.source.tree.ClassTree;
import com.sun.source.tree.CompilationUnitTree;
import com.sun.source.tree.CompoundAssignmentTree;
import com.sun.source.tree.ConditionalExpressionTree;
import com.sun.source.tree.ExpressionTree;
import com.sun.source.tree.ImportTree;
import com.sun.source.tree.InstanceOfTree;
import com.sun.source.tree.LambdaExpressionTree;
import com.sun.source.tree.LiteralTree;
import com.sun.source.tree.MemberReferenceTree;
import com.sun.source.tree.MethodInvocationTree;
import com.sun.source.tree.MethodTree;
import com.sun.source.tree.NewArrayTree;
import com.sun.source.tree.NewClassTree;
import com.sun.source.tree.SynchronizedTree;
import com.sun.source.tree.ThrowTree;
import com.sun.source.tree.Tree;
import com.sun.source.tree.TryTree;
import com.sun.source.tree.TypeCastTree;
import com.sun.source.tree.VariableTree;
import com.sun.source.util.JavacTask;
import com.sun.source.util.TreePath;
import com.sun.source.util.TreePathScanner;
import com.sun.source.util.Trees;
import java.io.IOException;
import java.nio.file.Files;
import java.nio.file.Path;
import java.util.HashMap;
import java.util.HashSet;
import java.util.List;
import java.util.Map;
import java.util.Set;
import java.util.TreeMap;
import java.util.TreeSet;
import javax.lang.model.element.Element;
import javax.lang.model.element.ElementKind;
import javax.lang.model.element.Modifier;
import javax.lang.model.element.VariableElement;
import javax.lang.model.type.TypeMirror;
import javax.tools.JavaCompiler;
import javax.tools.StandardJavaFileManager;
import javax.tools.ToolProvider;

/** The rules of ../shared/LANGUAGE.md, as the compiler's own tree of the class shows them. */
public final class RulesTest extends TreePathScanner<Void, Void> {
    private static final Path SOURCE = Path.of("src/main/java/QueueKeeper.java");

    /** Rule 4, and of it only what the class has a use for. */
    private static final Set<String> LIBRARY = Set.of("java.lang.Math.min", "java.lang.Math.max",
        "java.lang.Math.abs", "java.lang.System.arraycopy", "java.lang.String.length", "java.lang.String.charAt",
        "java.lang.Object.<init>", "java.lang.IndexOutOfBoundsException.<init>",
        "java.util.NoSuchElementException.<init>");
    private static final Set<String> THROWN =
        Set.of("java.lang.IndexOutOfBoundsException", "java.util.NoSuchElementException");
    private static final Set<String> TYPES = Set.of("int", "long", "boolean", "int[]", "java.lang.String", "void");

    private static final int DEEPEST = 8;
    private static final int PARAMETERS = 7;
    private static final int LINES = 60;
    private static final int CLASSES = 12;
    private static final int FIELDS = 20;

    private final CompilationUnitTree unit;
    private final Trees trees;

    /** Which methods each method calls, by their names with their classes' names. */
    private final Map<String, Set<String>> calls = new TreeMap<>();
    private final Set<String> face = new TreeSet<>();
    private final Set<String> inside = new HashSet<>();
    private final Map<String, Integer> fields = new HashMap<>();

    private RulesTest(CompilationUnitTree unit, Trees trees) {
        this.unit = unit;
        this.trees = trees;
    }

    public static void main(String[] args) throws IOException {
        JavaCompiler compiler = ToolProvider.getSystemJavaCompiler();
        try (StandardJavaFileManager files = compiler.getStandardFileManager(null, null, null)) {
            JavacTask task = (JavacTask) compiler.getTask(null, files, null, List.of("-proc:none"), null,
                files.getJavaFileObjects(SOURCE));
            CompilationUnitTree unit = task.parse().iterator().next();
            task.analyze();
            RulesTest rules = new RulesTest(unit, Trees.instance(task));
            rules.scan(unit, null);
            rules.finish();
        }
        for (char sign : Files.readString(SOURCE).toCharArray()) {
            if (sign > 127) {
                Check.due("rule 4: sign " + (int) sign, 1, 0);
            }
        }
        Check.finish("RulesTest");
    }

    private void must(String rule, Tree where, boolean holds) {
        long line = unit.getLineMap().getLineNumber(trees.getSourcePositions().getStartPosition(unit, where));
        Check.due("rule " + rule + ", line " + line, holds ? 1 : 0, 1);
    }

    private void never(String what, Tree where) {
        must(what + " is ruled out", where, false);
    }

    private Element element() {
        return trees.getElement(getCurrentPath());
    }

    private static String nameOf(Element method) {
        return method.getEnclosingElement() + "." + method.getSimpleName();
    }

    private static boolean isOwn(Element method) {
        String owner = method.getEnclosingElement().toString();
        return owner.equals("QueueKeeper") || owner.startsWith("QueueKeeper.");
    }

    /** The nearest tree round the current one that is of a kind, or null. */
    private <T> T around(Class<T> kind) {
        for (TreePath path = getCurrentPath().getParentPath(); path != null; path = path.getParentPath()) {
            if (kind.isInstance(path.getLeaf())) {
                return kind.cast(path.getLeaf());
            }
        }
        return null;
    }

    /** What a field's initialiser calls, its class's constructor calls. */
    private String caller() {
        for (TreePath path = getCurrentPath(); path != null; path = path.getParentPath()) {
            if (path.getLeaf() instanceof MethodTree) {
                return nameOf(trees.getElement(path));
            }
            if (path.getLeaf() instanceof ClassTree) {
                return trees.getElement(path) + ".<init>";
            }
        }
        return "";
    }

    private void addCall(Element method, Tree where) {
        calls.computeIfAbsent(caller(), name -> new TreeSet<>()).add(nameOf(method));
        must("4: " + nameOf(method), where, isOwn(method) || LIBRARY.contains(nameOf(method)));
    }

    @Override
    public Void visitImport(ImportTree tree, Void none) {
        must("4: import", tree, tree.getQualifiedIdentifier().toString().equals("java.util.NoSuchElementException"));
        return super.visitImport(tree, none);
    }

    @Override
    public Void visitClass(ClassTree tree, Void none) {
        Set<Modifier> modifiers = tree.getModifiers().getFlags();
        boolean isOuter = element().toString().equals("QueueKeeper");
        must("1 and 2: " + modifiers, tree, modifiers.equals(isOuter ? Set.of(Modifier.PUBLIC, Modifier.FINAL)
            : Set.of(Modifier.PRIVATE, Modifier.STATIC, Modifier.FINAL)));
        must("2: a plain class", tree, tree.getKind() == Tree.Kind.CLASS && around(MethodTree.class) == null);
        inside.add(element().toString());
        return super.visitClass(tree, none);
    }

    @Override
    public Void visitMethod(MethodTree tree, Void none) {
        must("11: parameters", tree, tree.getParameters().size() <= PARAMETERS);
        long first = trees.getSourcePositions().getStartPosition(unit, tree);
        long last = trees.getSourcePositions().getEndPosition(unit, tree);
        // A constructor that isn't written has no end.
        if (last >= 0) {
            long lines = unit.getLineMap().getLineNumber(last) - unit.getLineMap().getLineNumber(first) + 1;
            must("11: lines", tree, lines <= LINES);
        }
        calls.computeIfAbsent(nameOf(element()), name -> new TreeSet<>());
        if (tree.getModifiers().getFlags().contains(Modifier.PUBLIC)) {
            face.add(nameOf(element()));
        }
        return super.visitMethod(tree, none);
    }

    @Override
    public Void visitVariable(VariableTree tree, Void none) {
        Element variable = element();
        String type = variable.asType().toString();
        boolean isOwnType = type.startsWith("QueueKeeper.");
        must("3: " + type, tree, TYPES.contains(type) || isOwnType);
        if (variable.getKind() == ElementKind.FIELD) {
            if (variable.getModifiers().contains(Modifier.STATIC)) {
                must("5: final", tree, variable.getModifiers().contains(Modifier.FINAL));
                boolean isWritten = ((VariableElement) variable).getConstantValue() != null
                    || tree.getInitializer() instanceof NewArrayTree;
                must("5: a constant", tree, isWritten && !isOwnType);
            } else {
                fields.merge(variable.getEnclosingElement().toString(), 1, Integer::sum);
            }
        }
        return super.visitVariable(tree, none);
    }

    @Override
    public Void visitMethodInvocation(MethodInvocationTree tree, Void none) {
        addCall(element(), tree);
        return super.visitMethodInvocation(tree, none);
    }

    /** All rows and objects are made by constructors, but for what is thrown. */
    @Override
    public Void visitNewClass(NewClassTree tree, Void none) {
        addCall(element(), tree);
        must("2: no class without a name", tree, tree.getClassBody() == null);
        boolean isThrown = getCurrentPath().getParentPath().getLeaf() instanceof ThrowTree;
        must("12: made by a constructor", tree, isThrown || caller().endsWith(".<init>"));
        return super.visitNewClass(tree, none);
    }

    @Override
    public Void visitNewArray(NewArrayTree tree, Void none) {
        must("12: made by a constructor", tree, caller().endsWith(".<init>"));
        for (ExpressionTree length : tree.getDimensions()) {
            Element named = trees.getElement(new TreePath(getCurrentPath(), length));
            boolean isKnown = named instanceof VariableElement && ((VariableElement) named).getConstantValue() != null;
            must("7: a length that is a constant", tree, isKnown);
        }
        return super.visitNewArray(tree, none);
    }

    @Override
    public Void visitThrow(ThrowTree tree, Void none) {
        must("6: throw new", tree, tree.getExpression() instanceof NewClassTree);
        TypeMirror type = trees.getTypeMirror(new TreePath(getCurrentPath(), tree.getExpression()));
        must("6: throws " + type, tree, THROWN.contains(type.toString()) && face.contains(caller()));
        return super.visitThrow(tree, none);
    }

    /** An index that stands in a row is named and looked at, not used as it comes. */
    @Override
    public Void visitArrayAccess(ArrayAccessTree tree, Void none) {
        must("7: an index out of a row is looked at first", tree, !(tree.getIndex() instanceof ArrayAccessTree));
        return super.visitArrayAccess(tree, none);
    }

    /** Divisors are tested by "divisor > 0 ? .. : .." round the very division. */
    @Override
    public Void visitBinary(BinaryTree tree, Void none) {
        boolean divides = tree.getKind() == Tree.Kind.DIVIDE || tree.getKind() == Tree.Kind.REMAINDER;
        if (divides && !isNumberAboveZero(tree.getRightOperand())) {
            ConditionalExpressionTree test = around(ConditionalExpressionTree.class);
            must("7: a divisor that is tested", tree, test != null
                && test.getCondition().toString().equals(tree.getRightOperand() + " > 0"));
        }
        if (tree.getKind() == Tree.Kind.PLUS) {
            String type = trees.getTypeMirror(getCurrentPath()).toString();
            must("10: texts aren't joined by +", tree, type.equals("int") || type.equals("long"));
        }
        return super.visitBinary(tree, none);
    }

    private static boolean isNumberAboveZero(ExpressionTree tree) {
        return tree instanceof LiteralTree && ((LiteralTree) tree).getValue() instanceof Integer
            && (Integer) ((LiteralTree) tree).getValue() > 0;
    }

    @Override
    public Void visitCompoundAssignment(CompoundAssignmentTree tree, Void none) {
        must("7: no division here", tree, tree.getKind() != Tree.Kind.DIVIDE_ASSIGNMENT
            && tree.getKind() != Tree.Kind.REMAINDER_ASSIGNMENT);
        return super.visitCompoundAssignment(tree, none);
    }

    @Override
    public Void visitTypeCast(TypeCastTree tree, Void none) {
        must("7: casts of numbers alone", tree, tree.getType().getKind() == Tree.Kind.PRIMITIVE_TYPE);
        return super.visitTypeCast(tree, none);
    }

    @Override
    public Void visitBlock(BlockTree tree, Void none) {
        must("5: no initialiser block", tree, !(getCurrentPath().getParentPath().getLeaf() instanceof ClassTree));
        return super.visitBlock(tree, none);
    }

    @Override
    public Void visitTry(TryTree tree, Void none) {
        never("6: try", tree);
        return super.visitTry(tree, none);
    }

    @Override
    public Void visitSynchronized(SynchronizedTree tree, Void none) {
        never("6: synchronized", tree);
        return super.visitSynchronized(tree, none);
    }

    @Override
    public Void visitAssert(AssertTree tree, Void none) {
        never("6: assert", tree);
        return super.visitAssert(tree, none);
    }

    @Override
    public Void visitLambdaExpression(LambdaExpressionTree tree, Void none) {
        never("2: a lambda", tree);
        return super.visitLambdaExpression(tree, none);
    }

    @Override
    public Void visitMemberReference(MemberReferenceTree tree, Void none) {
        never("2: a method reference", tree);
        return super.visitMemberReference(tree, none);
    }

    @Override
    public Void visitInstanceOf(InstanceOfTree tree, Void none) {
        never("instanceof has no use here, and", tree);
        return super.visitInstanceOf(tree, none);
    }

    @Override
    public Void visitAnnotation(AnnotationTree tree, Void none) {
        never("4: an annotation", tree);
        return super.visitAnnotation(tree, none);
    }

    private void finish() {
        Check.due("rule 11: classes", inside.size() <= CLASSES ? 1 : 0, 1);
        for (String owner : inside) {
            Check.due("rule 11: fields of " + owner, fields.getOrDefault(owner, 0) <= FIELDS ? 1 : 0, 1);
        }
        Check.due("methods of the face", face.size() > 1 ? 1 : 0, 1);
        for (String method : face) {
            Check.due("rules 8 and 11: how deep " + method + " goes", depth(method, DEEPEST) <= DEEPEST ? 1 : 0, 1);
        }
    }

    /** How many calls stand open at once at most, looked at no further than what is left. */
    private int depth(String method, int left) {
        int deepest = 0;
        for (String callee : calls.getOrDefault(method, Set.of())) {
            deepest = Math.max(deepest, left == 0 ? 1 : depth(callee, left - 1));
        }
        return deepest + 1;
    }
}
