import com.sun.source.tree.AssertTree;
import com.sun.source.tree.BinaryTree;
import com.sun.source.tree.BlockTree;
import com.sun.source.tree.ClassTree;
import com.sun.source.tree.CompilationUnitTree;
import com.sun.source.tree.DoWhileLoopTree;
import com.sun.source.tree.ExpressionTree;
import com.sun.source.tree.ForLoopTree;
import com.sun.source.tree.IdentifierTree;
import com.sun.source.tree.ImportTree;
import com.sun.source.tree.InstanceOfTree;
import com.sun.source.tree.LambdaExpressionTree;
import com.sun.source.tree.LineMap;
import com.sun.source.tree.LiteralTree;
import com.sun.source.tree.MemberReferenceTree;
import com.sun.source.tree.MethodInvocationTree;
import com.sun.source.tree.MethodTree;
import com.sun.source.tree.NewArrayTree;
import com.sun.source.tree.NewClassTree;
import com.sun.source.tree.ParenthesizedTree;
import com.sun.source.tree.SynchronizedTree;
import com.sun.source.tree.ThrowTree;
import com.sun.source.tree.Tree;
import com.sun.source.tree.TryTree;
import com.sun.source.tree.TypeCastTree;
import com.sun.source.tree.VariableTree;
import com.sun.source.tree.WhileLoopTree;
import com.sun.source.util.JavacTask;
import com.sun.source.util.TreePath;
import com.sun.source.util.TreePathScanner;
import com.sun.source.util.Trees;
import java.io.IOException;
import java.nio.file.Path;
import java.util.List;
import java.util.Map;
import java.util.Set;
import java.util.TreeMap;
import java.util.TreeSet;
import javax.lang.model.element.Element;
import javax.lang.model.element.ElementKind;
import javax.lang.model.element.Modifier;
import javax.lang.model.type.TypeMirror;
import javax.tools.JavaCompiler;
import javax.tools.StandardJavaFileManager;
import javax.tools.ToolProvider;

/** The rules of ../shared/LANGUAGE.md, as far as the compiler's tree of the class shows them. */
public final class LanguageTest extends TreePathScanner<Void, Void> {
    private static final Path SOURCE = Path.of("src/main/java/TwoArmies.java");
    private static final Set<String> LIBRARY = Set.of(
        "String.length", "String.charAt", "Math.max", "Math.min", "System.arraycopy");
    private static final Set<String> STATIC_TYPES = Set.of(
        "int", "long", "boolean", "char", "java.lang.String", "int[]", "long[]", "char[]", "byte[]");
    private static final Set<String> LIBRARY_TYPES = Set.of(
        "int", "long", "short", "byte", "char", "boolean", "java.lang.String", "int[]", "long[]", "boolean[]");
    private static final Set<Tree.Kind> COMPARISONS = Set.of(Tree.Kind.EQUAL_TO, Tree.Kind.NOT_EQUAL_TO);

    private final Checks checks;
    private final Trees trees;
    private final LineMap lines;
    private final CompilationUnitTree unit;
    private final Map<String, Set<String>> calls = new TreeMap<>();
    private final Set<String> faceNames = new TreeSet<>();
    private final Set<String> otherNames = new TreeSet<>();
    private int classes = 0;

    private LanguageTest(Checks checks, Trees trees, CompilationUnitTree unit) {
        this.checks = checks;
        this.trees = trees;
        this.unit = unit;
        this.lines = unit.getLineMap();
    }

    public static void main(String[] args) throws IOException {
        Checks checks = new Checks();
        JavaCompiler compiler = ToolProvider.getSystemJavaCompiler();
        try (StandardJavaFileManager files = compiler.getStandardFileManager(null, null, null)) {
            JavacTask task = (JavacTask) compiler.getTask(
                null, files, null, List.of("-proc:none"), null, files.getJavaFileObjects(SOURCE));
            CompilationUnitTree unit = task.parse().iterator().next();
            task.analyze();
            LanguageTest test = new LanguageTest(checks, Trees.instance(task), unit);
            test.scan(unit, null);
            test.whole();
        }
        checks.finish();
    }

    private void holds(String rule, Tree tree, boolean holds) {
        long at = trees.getSourcePositions().getStartPosition(unit, tree);
        checks.isTrue("rule " + rule + ", line " + lines.getLineNumber(at), holds);
    }

    private long linesOf(Tree tree) {
        long start = trees.getSourcePositions().getStartPosition(unit, tree);
        long end = trees.getSourcePositions().getEndPosition(unit, tree);
        return lines.getLineNumber(end) - lines.getLineNumber(start) + 1;
    }

    private Element here() {
        return trees.getElement(getCurrentPath());
    }

    private TypeMirror typeOf(Tree tree) {
        return trees.getTypeMirror(new TreePath(getCurrentPath(), tree));
    }

    private static boolean isOwn(String type) {
        return type.startsWith("TwoArmies.") || type.equals("TwoArmies");
    }

    /** What can only be said of the whole file. */
    private void whole() {
        checks.isTrue("rule 11: at most twelve classes, but " + classes, classes >= 1 && classes <= 12);
        otherNames.retainAll(faceNames);
        checks.isTrue("rule 1: names of the face elsewhere: " + otherNames, otherNames.isEmpty());
        for (String method : calls.keySet()) {
            int depth = depthOf(method, 1);
            checks.isTrue("rules 8, 11: " + method + " goes " + depth + " deep", depth <= 8);
        }
    }

    /** A method that calls itself, straight or not, goes as deep as the guard here. */
    private int depthOf(String method, int level) {
        int deepest = level;
        for (String called : calls.getOrDefault(method, Set.of())) {
            deepest = Math.max(deepest, level > 20 ? level : depthOf(called, level + 1));
        }
        return deepest;
    }

    @Override
    public Void visitCompilationUnit(CompilationUnitTree tree, Void nothing) {
        checks.isTrue("no package line", tree.getPackageName() == null);
        checks.due("classes of the file", tree.getTypeDecls().size(), 1);
        return super.visitCompilationUnit(tree, nothing);
    }

    @Override
    public Void visitImport(ImportTree tree, Void nothing) {
        holds("4: no import", tree, false);
        return super.visitImport(tree, nothing);
    }

    @Override
    public Void visitClass(ClassTree tree, Void nothing) {
        classes++;
        Set<Modifier> flags = tree.getModifiers().getFlags();
        boolean isFace = tree.getSimpleName().contentEquals("TwoArmies");
        holds("1: " + tree.getSimpleName(), tree, isFace
            ? flags.equals(Set.of(Modifier.PUBLIC, Modifier.FINAL))
            : flags.contains(Modifier.STATIC) && !flags.contains(Modifier.PUBLIC)
                && !flags.contains(Modifier.PROTECTED));
        Tree.Kind parent = getCurrentPath().getParentPath().getLeaf().getKind();
        holds("2: no local class", tree, parent == Tree.Kind.CLASS || parent == Tree.Kind.COMPILATION_UNIT);
        int fields = 0;
        for (Tree member : tree.getMembers()) {
            holds("5: no block by itself", member, !(member instanceof BlockTree));
            if (member instanceof VariableTree field && !field.getModifiers().getFlags().contains(Modifier.STATIC)) {
                fields++;
            }
        }
        holds("11: few fields", tree, fields <= 20);
        return super.visitClass(tree, nothing);
    }

    @Override
    public Void visitMethod(MethodTree tree, Void nothing) {
        Element method = here();
        boolean isOfFace = method.getEnclosingElement().getSimpleName().contentEquals("TwoArmies");
        boolean isPublic = method.getModifiers().contains(Modifier.PUBLIC);
        (isPublic ? faceNames : otherNames).add(tree.getName().toString());
        otherNames.remove("<init>");
        holds("1: public or private", tree, !isOfFace || isPublic || method.getModifiers().contains(Modifier.PRIVATE));
        holds("1: public in the face alone", tree, isOfFace || !isPublic);
        holds("11: parameters", tree, tree.getParameters().size() <= 7);
        holds("11: " + tree.getName() + " is short", tree, linesOf(tree) <= 60);
        return super.visitMethod(tree, nothing);
    }

    @Override
    public Void visitVariable(VariableTree tree, Void nothing) {
        Element variable = here();
        Set<Modifier> flags = variable.getModifiers();
        String type = variable.asType().toString();
        String single = type.replace("[]", "");
        holds("3: " + type, tree, LIBRARY_TYPES.contains(type) || isOwn(single) && type.length() - single.length() <= 2);
        if (variable.getKind() == ElementKind.FIELD) {
            boolean isFace = variable.getEnclosingElement().getSimpleName().contentEquals("TwoArmies");
            boolean isShown = flags.contains(Modifier.PUBLIC) && flags.contains(Modifier.STATIC);
            holds("1: a field is private", tree, flags.contains(Modifier.PRIVATE) || isFace && isShown);
            if (flags.contains(Modifier.STATIC)) {
                holds("5: static", tree, flags.contains(Modifier.FINAL) && STATIC_TYPES.contains(type));
            }
        }
        return super.visitVariable(tree, nothing);
    }

    @Override
    public Void visitMethodInvocation(MethodInvocationTree tree, Void nothing) {
        Element called = here();
        Element owner = called.getEnclosingElement();
        String name = owner.getSimpleName() + "." + called.getSimpleName();
        if (isOwn(owner.toString())) {
            calls.computeIfAbsent(nameAround(), around -> new TreeSet<>()).add(name);
        } else if (!called.getSimpleName().contentEquals("<init>")) {
            holds("4: " + name, tree, LIBRARY.contains(name));
        }
        noneIsThis(tree.getArguments());
        return super.visitMethodInvocation(tree, nothing);
    }

    /** The method, or the class for a field's initialiser, in which the scanner stands. */
    private String nameAround() {
        for (TreePath path = getCurrentPath(); path != null; path = path.getParentPath()) {
            if (path.getLeaf() instanceof MethodTree || path.getLeaf() instanceof ClassTree) {
                Element around = trees.getElement(path);
                return around.getEnclosingElement().getSimpleName() + "." + around.getSimpleName();
            }
        }
        return "";
    }

    private void noneIsThis(List<? extends ExpressionTree> arguments) {
        for (ExpressionTree argument : arguments) {
            boolean isThis = argument instanceof IdentifierTree name && name.getName().contentEquals("this");
            holds("12: 'this' is not handed out", argument, !isThis);
        }
    }

    /** Stricter than rule 12: all rows are made in constructors and in the initialisers of fields. */
    private boolean isMadeAtFirst() {
        String around = nameAround();
        return around.endsWith(".<init>") || around.startsWith("TwoArmies.") && isNameOfClass(around)
            || around.equals(".TwoArmies");
    }

    private static boolean isNameOfClass(String around) {
        return Character.isUpperCase(around.charAt(around.indexOf('.') + 1));
    }

    @Override
    public Void visitNewClass(NewClassTree tree, Void nothing) {
        holds("2: no class without a name", tree, tree.getClassBody() == null);
        holds("12: made at first", tree, isMadeAtFirst());
        holds("4: own classes", tree, isOwn(typeOf(tree.getIdentifier()).toString()));
        noneIsThis(tree.getArguments());
        return super.visitNewClass(tree, nothing);
    }

    @Override
    public Void visitNewArray(NewArrayTree tree, Void nothing) {
        holds("12: made at first", tree, isMadeAtFirst());
        return super.visitNewArray(tree, nothing);
    }

    @Override
    public Void visitBinary(BinaryTree tree, Void nothing) {
        String type = String.valueOf(typeOf(tree.getLeftOperand()));
        if (COMPARISONS.contains(tree.getKind())) {
            holds("6: texts are not compared by ==", tree, !type.startsWith("java."));
        }
        if (tree.getKind() == Tree.Kind.PLUS) {
            holds("10: texts are not joined by +", tree, !type.startsWith("java."));
        }
        return super.visitBinary(tree, nothing);
    }

    @Override
    public Void visitLiteral(LiteralTree tree, Void nothing) {
        if (tree.getValue() instanceof String text) {
            holds("4: signs 1 to 127", tree, text.chars().allMatch(sign -> sign >= 1 && sign <= 127));
        }
        return super.visitLiteral(tree, nothing);
    }

    @Override
    public Void visitTypeCast(TypeCastTree tree, Void nothing) {
        holds("6: casts of numbers alone", tree, tree.getType().getKind() == Tree.Kind.PRIMITIVE_TYPE);
        return super.visitTypeCast(tree, nothing);
    }

    private void hasEnd(Tree loop, ExpressionTree condition) {
        Tree inner = condition instanceof ParenthesizedTree in ? in.getExpression() : condition;
        holds("9: the loop has an end", loop, inner != null && !(inner instanceof LiteralTree));
    }

    @Override
    public Void visitForLoop(ForLoopTree tree, Void nothing) {
        hasEnd(tree, tree.getCondition());
        return super.visitForLoop(tree, nothing);
    }

    @Override
    public Void visitWhileLoop(WhileLoopTree tree, Void nothing) {
        hasEnd(tree, tree.getCondition());
        return super.visitWhileLoop(tree, nothing);
    }

    @Override
    public Void visitDoWhileLoop(DoWhileLoopTree tree, Void nothing) {
        hasEnd(tree, tree.getCondition());
        return super.visitDoWhileLoop(tree, nothing);
    }

    @Override
    public Void visitLambdaExpression(LambdaExpressionTree tree, Void nothing) {
        holds("2: no lambda", tree, false);
        return super.visitLambdaExpression(tree, nothing);
    }

    @Override
    public Void visitMemberReference(MemberReferenceTree tree, Void nothing) {
        holds("2: no method reference", tree, false);
        return super.visitMemberReference(tree, nothing);
    }

    @Override
    public Void visitThrow(ThrowTree tree, Void nothing) {
        holds("6: no throw", tree, false);
        return super.visitThrow(tree, nothing);
    }

    @Override
    public Void visitTry(TryTree tree, Void nothing) {
        holds("6: no try", tree, false);
        return super.visitTry(tree, nothing);
    }

    @Override
    public Void visitSynchronized(SynchronizedTree tree, Void nothing) {
        holds("6: no synchronized", tree, false);
        return super.visitSynchronized(tree, nothing);
    }

    @Override
    public Void visitAssert(AssertTree tree, Void nothing) {
        holds("6: no assert", tree, false);
        return super.visitAssert(tree, nothing);
    }

    @Override
    public Void visitInstanceOf(InstanceOfTree tree, Void nothing) {
        holds("6: no class has others under it here", tree, false);
        return super.visitInstanceOf(tree, nothing);
    }
}
