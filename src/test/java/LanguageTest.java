import com.sun.source.tree.BinaryTree;
import com.sun.source.tree.ClassTree;
import com.sun.source.tree.CompilationUnitTree;
import com.sun.source.tree.DoWhileLoopTree;
import com.sun.source.tree.EnhancedForLoopTree;
import com.sun.source.tree.ForLoopTree;
import com.sun.source.tree.LambdaExpressionTree;
import com.sun.source.tree.LineMap;
import com.sun.source.tree.MemberReferenceTree;
import com.sun.source.tree.MethodInvocationTree;
import com.sun.source.tree.MethodTree;
import com.sun.source.tree.NewArrayTree;
import com.sun.source.tree.NewClassTree;
import com.sun.source.tree.Tree;
import com.sun.source.tree.TypeCastTree;
import com.sun.source.tree.VariableTree;
import com.sun.source.tree.WhileLoopTree;
import com.sun.source.util.JavacTask;
import com.sun.source.util.TreePathScanner;
import com.sun.source.util.Trees;
import java.io.IOException;
import java.nio.file.Path;
import java.util.ArrayDeque;
import java.util.ArrayList;
import java.util.Deque;
import java.util.HashMap;
import java.util.LinkedHashMap;
import java.util.LinkedHashSet;
import java.util.List;
import java.util.Map;
import java.util.Set;
import javax.lang.model.element.Element;
import javax.lang.model.element.ExecutableElement;
import javax.lang.model.element.Modifier;
import javax.lang.model.element.TypeElement;
import javax.lang.model.type.TypeMirror;
import javax.tools.JavaCompiler;
import javax.tools.StandardJavaFileManager;
import javax.tools.ToolProvider;

/** What of ../shared/LANGUAGE.md can be seen in the tree that javac makes of the class, by the numbers of its rules. */
public final class LanguageTest extends TreePathScanner<Void, Void> {
    private static final Path FILE = Path.of("src/main/java/HollowWall.java");
    private static final Set<String> LIBRARY = Set.of("java.lang.Math.min(int,int)", "java.lang.Math.max(int,int)",
        "java.lang.Math.max(long,long)", "java.util.Arrays.fill(int[],int)", "java.util.Arrays.fill(long[],long)",
        "java.lang.String.charAt(int)", "java.lang.String.length()",
        "java.lang.System.arraycopy(java.lang.Object,int,java.lang.Object,int,int)");
    private static final Set<String> TYPES = Set.of("int", "long", "byte", "short", "boolean", "void",
        "java.lang.String");

    private final Trees trees;
    private final CompilationUnitTree unit;
    private final Map<Element, Set<Element>> callsOf = new LinkedHashMap<>();
    private final Map<Element, Integer> depths = new HashMap<>();
    private final Deque<Element> open = new ArrayDeque<>();
    private Element within = null;
    private boolean isMaking = false;
    private int classes = 0;

    private LanguageTest(Trees trees, CompilationUnitTree unit) {
        this.trees = trees;
        this.unit = unit;
    }

    public static void main(String[] args) throws IOException {
        JavaCompiler compiler = ToolProvider.getSystemJavaCompiler();
        try (StandardJavaFileManager files = compiler.getStandardFileManager(null, null, null)) {
            JavacTask task = (JavacTask) compiler.getTask(null, files, null, List.of("-proc:none"), null,
                files.getJavaFileObjects(FILE));
            List<CompilationUnitTree> units = new ArrayList<>();
            task.parse().forEach(units::add);
            task.analyze();
            Checks.same("files", units.size(), 1);
            LanguageTest test = new LanguageTest(Trees.instance(task), units.get(0));
            test.scan(units.get(0), null);
            Checks.holds("11: some twelve classes, not " + test.classes, test.classes <= 12);
            test.calls();
        }
        Checks.end();
    }

    private String at(Tree tree) {
        return tree.getKind() + " in line " + line(trees.getSourcePositions().getStartPosition(unit, tree));
    }

    private long line(long position) {
        LineMap lines = unit.getLineMap();
        return lines.getLineNumber(position);
    }

    /** 8: nothing calls itself; 11: calls go at most eight deep, that of the face counted too. */
    private void calls() {
        int deepest = 0;
        for (Element method : callsOf.keySet()) {
            int depth = depthOf(method);
            deepest = Math.max(deepest, depth);
            Checks.holds("11: calls from " + method + " go " + depth + " deep", depth <= 8);
        }
        Checks.holds("calls were found", deepest > 3);
    }

    private int depthOf(Element method) {
        Integer known = depths.get(method);
        if (known != null) {
            return known;
        }
        Checks.holds("8: " + method + " is called again within itself", !open.contains(method));
        if (open.contains(method)) {
            return 1;
        }
        open.push(method);
        int behind = 0;
        for (Element called : callsOf.getOrDefault(method, Set.of())) {
            behind = Math.max(behind, depthOf(called));
        }
        open.pop();
        depths.put(method, behind + 1);
        return behind + 1;
    }

    @Override
    public Void visitClass(ClassTree tree, Void none) {
        classes++;
        Checks.holds("2: " + at(tree), tree.getKind() == Tree.Kind.CLASS && !tree.getSimpleName().isEmpty());
        int fields = 0;
        for (Tree member : tree.getMembers()) {
            Checks.holds("5: no initialiser block, " + at(member), member.getKind() != Tree.Kind.BLOCK);
            if (member instanceof VariableTree
                    && !((VariableTree) member).getModifiers().getFlags().contains(Modifier.STATIC)) {
                fields++;
            }
        }
        Checks.holds("11: " + tree.getSimpleName() + " has some twenty fields, not " + fields, fields <= 20);
        boolean outer = isMaking;
        isMaking = true;
        super.visitClass(tree, none);
        isMaking = outer;
        return null;
    }

    @Override
    public Void visitMethod(MethodTree tree, Void none) {
        Element outer = within;
        within = trees.getElement(getCurrentPath());
        isMaking = tree.getName().contentEquals("<init>");
        callsOf.putIfAbsent(within, new LinkedHashSet<>());
        Checks.holds("11: parameters of " + within, tree.getParameters().size() <= 7);
        if (trees.getSourcePositions().getStartPosition(unit, tree) >= 0 && tree.getBody() != null) {
            long first = line(trees.getSourcePositions().getStartPosition(unit, tree));
            long last = line(Math.max(0, trees.getSourcePositions().getEndPosition(unit, tree)));
            Checks.holds("11: lines of " + within, last - first < 60);
        }
        super.visitMethod(tree, none);
        isMaking = true;
        within = outer;
        return null;
    }

    @Override
    public Void visitMethodInvocation(MethodInvocationTree tree, Void none) {
        Element called = trees.getElement(getCurrentPath());
        TypeElement owner = (TypeElement) called.getEnclosingElement();
        boolean isOwn = owner.getQualifiedName().toString().startsWith("HollowWall");
        if (isOwn) {
            callsOf.computeIfAbsent(within, key -> new LinkedHashSet<>()).add(called);
        } else if (!called.getSimpleName().contentEquals("<init>")) {
            String name = owner.getQualifiedName() + "." + called;
            Checks.holds("4: " + name + ", " + at(tree), LIBRARY.contains(name));
        }
        return super.visitMethodInvocation(tree, none);
    }

    @Override
    public Void visitNewClass(NewClassTree tree, Void none) {
        Element maker = trees.getElement(getCurrentPath());
        Checks.holds("12: made in a call, " + at(tree), isMaking);
        Checks.holds("2: a class of its own, " + at(tree), tree.getClassBody() == null);
        if (within != null) {
            callsOf.computeIfAbsent(within, key -> new LinkedHashSet<>()).add(maker);
        }
        return super.visitNewClass(tree, none);
    }

    @Override
    public Void visitNewArray(NewArrayTree tree, Void none) {
        Checks.holds("12: made in a call, " + at(tree), isMaking);
        return super.visitNewArray(tree, none);
    }

    @Override
    public Void visitVariable(VariableTree tree, Void none) {
        Element variable = trees.getElement(getCurrentPath());
        String type = variable.asType().toString().replace("[]", "");
        Checks.holds("3: " + type + ", " + at(tree), TYPES.contains(type) || type.startsWith("HollowWall."));
        Set<Modifier> flags = tree.getModifiers().getFlags();
        if (flags.contains(Modifier.STATIC)) {
            TypeMirror kind = variable.asType();
            Checks.holds("5: " + at(tree), flags.contains(Modifier.FINAL)
                && (kind.getKind().isPrimitive() || kind.toString().equals("java.lang.String")));
        }
        return super.visitVariable(tree, none);
    }

    @Override
    public Void visitBinary(BinaryTree tree, Void none) {
        TypeMirror type = trees.getTypeMirror(getCurrentPath());
        Checks.holds("10: texts joined, " + at(tree), type.getKind().isPrimitive());
        return super.visitBinary(tree, none);
    }

    @Override
    public Void visitTypeCast(TypeCastTree tree, Void none) {
        Checks.holds("6: " + at(tree), trees.getTypeMirror(getCurrentPath()).getKind().isPrimitive());
        return super.visitTypeCast(tree, none);
    }

    @Override
    public Void visitForLoop(ForLoopTree tree, Void none) {
        boolean hasCounter = tree.getInitializer().size() == 1 && tree.getUpdate().size() == 1
            && tree.getCondition() != null;
        Checks.holds("9: a counter and its bound, " + at(tree), hasCounter);
        return super.visitForLoop(tree, none);
    }

    @Override
    public Void visitWhileLoop(WhileLoopTree tree, Void none) {
        Checks.holds("9: up to the text's length, " + at(tree),
            tree.getCondition().toString().startsWith("(next < textLength && ")
            && tree.getStatement().toString().contains("next++"));
        return super.visitWhileLoop(tree, none);
    }

    @Override
    public Void visitDoWhileLoop(DoWhileLoopTree tree, Void none) {
        Checks.holds("9: " + at(tree), false);
        return super.visitDoWhileLoop(tree, none);
    }

    @Override
    public Void visitEnhancedForLoop(EnhancedForLoopTree tree, Void none) {
        Checks.holds("9: " + at(tree), false);
        return super.visitEnhancedForLoop(tree, none);
    }

    @Override
    public Void visitLambdaExpression(LambdaExpressionTree tree, Void none) {
        Checks.holds("2: " + at(tree), false);
        return super.visitLambdaExpression(tree, none);
    }

    @Override
    public Void visitMemberReference(MemberReferenceTree tree, Void none) {
        Checks.holds("2: " + at(tree), false);
        return super.visitMemberReference(tree, none);
    }
}
