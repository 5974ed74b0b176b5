import com.sun.source.tree.AssertTree;
import com.sun.source.tree.ClassTree;
import com.sun.source.tree.CompilationUnitTree;
import com.sun.source.tree.ExpressionTree;
import com.sun.source.tree.ForLoopTree;
import com.sun.source.tree.ImportTree;
import com.sun.source.tree.InstanceOfTree;
import com.sun.source.tree.LambdaExpressionTree;
import com.sun.source.tree.LiteralTree;
import com.sun.source.tree.MemberReferenceTree;
import com.sun.source.tree.MethodInvocationTree;
import com.sun.source.tree.MethodTree;
import com.sun.source.tree.NewClassTree;
import com.sun.source.tree.ParenthesizedTree;
import com.sun.source.tree.SynchronizedTree;
import com.sun.source.tree.ThrowTree;
import com.sun.source.tree.Tree;
import com.sun.source.tree.TryTree;
import com.sun.source.tree.TypeCastTree;
import com.sun.source.tree.VariableTree;
import com.sun.source.tree.WhileLoopTree;
import com.sun.source.util.JavacTask;
import com.sun.source.util.SourcePositions;
import com.sun.source.util.TreePathScanner;
import com.sun.source.util.Trees;
import java.io.IOException;
import java.nio.file.Path;
import java.util.ArrayDeque;
import java.util.ArrayList;
import java.util.Deque;
import java.util.HashMap;
import java.util.LinkedHashSet;
import java.util.List;
import java.util.Map;
import java.util.Set;
import javax.lang.model.element.Element;
import javax.lang.model.element.ElementKind;
import javax.lang.model.element.ExecutableElement;
import javax.lang.model.element.Modifier;
import javax.lang.model.element.TypeElement;
import javax.lang.model.util.Elements;
import javax.tools.JavaCompiler;
import javax.tools.StandardJavaFileManager;
import javax.tools.ToolProvider;

/** The rules of LANGUAGE.md that the compiler's own tree of the class can show. */
public final class LanguageTest {
    private static final Path SOURCE = Path.of("src/main/java/TelecontrolPost.java");
    private static final Set<String> LIBRARY = Set.of("java.lang.Math.min", "java.lang.Object.<init>");
    private static final Set<String> THROWN = Set.of("IllegalArgumentException", "IllegalStateException");
    private static final int DEEPEST = 8;
    private static final int LONGEST_METHOD = 60;
    private static final int MOST_PARAMETERS = 7;
    private static final int MOST_CLASSES = 12;
    private static final int MOST_FIELDS = 20;

    private final Map<ExecutableElement, Set<ExecutableElement>> calls = new HashMap<>();
    private final Map<TypeElement, Integer> fields = new HashMap<>();
    private final List<TypeElement> classes = new ArrayList<>();
    private final Deque<ExecutableElement> open = new ArrayDeque<>();

    public static void main(String[] args) throws IOException {
        JavaCompiler compiler = ToolProvider.getSystemJavaCompiler();
        try (StandardJavaFileManager files = compiler.getStandardFileManager(null, null, null)) {
            JavacTask task = (JavacTask) compiler.getTask(
                    null, files, null, List.of("-proc:none"), null, files.getJavaFileObjects(SOURCE));
            Iterable<? extends CompilationUnitTree> units = task.parse();
            task.analyze();
            LanguageTest test = new LanguageTest();
            for (CompilationUnitTree unit : units) {
                Check.isTrue("no package", unit.getPackageName() == null);
                test.new Rules(Trees.instance(task)).scan(unit, null);
            }
            test.classesAndFields();
            test.depths(task.getElements());
        }
        Check.end();
    }

    /** Rule 11. What a class inherits counts among its fields, too. */
    private void classesAndFields() {
        Check.isTrue("rule 11: " + classes.size() + " classes", classes.size() <= MOST_CLASSES);
        for (TypeElement type : classes) {
            int many = 0;
            for (TypeElement each : classes) {
                boolean isOf = each == type || type.getSuperclass().toString().equals(each.toString());
                many += isOf ? fields.getOrDefault(each, 0) : 0;
            }
            Check.isTrue("rule 11: " + many + " fields of " + type, many <= MOST_FIELDS);
        }
    }

    /** Rules 8 and 11: no recursion, and the library's own call counts as one more. */
    private void depths(Elements elements) {
        Check.isTrue("calls were found", calls.size() > 100);
        for (ExecutableElement method : List.copyOf(calls.keySet())) {
            if (method.getModifiers().contains(Modifier.PUBLIC)) {
                int deep = depth(method, elements);
                Check.isTrue("rule 11: " + method + " goes " + deep + " deep", deep <= DEEPEST);
            }
        }
    }

    private int depth(ExecutableElement method, Elements elements) {
        if (open.contains(method)) {
            Check.isTrue("rule 8: no recursion at " + method, false);
            return 0;
        }
        open.push(method);
        int deepest = 0;
        for (ExecutableElement called : calls.getOrDefault(method, Set.of())) {
            for (ExecutableElement meant : overriding(called, elements)) {
                deepest = Math.max(deepest, depth(meant, elements));
            }
        }
        open.pop();
        return deepest + 1;
    }

    private Set<ExecutableElement> overriding(ExecutableElement called, Elements elements) {
        Set<ExecutableElement> all = new LinkedHashSet<>();
        all.add(called);
        for (ExecutableElement method : calls.keySet()) {
            if (elements.overrides(method, called, (TypeElement) method.getEnclosingElement())) {
                all.add(method);
            }
        }
        return all;
    }

    /** Looks at each place of the source, and notes who calls whom. */
    private final class Rules extends TreePathScanner<Void, Void> {
        private final Trees trees;
        private ExecutableElement inside;

        Rules(Trees trees) {
            this.trees = trees;
        }

        private Element here() {
            return trees.getElement(getCurrentPath());
        }

        private void never(String rule, Tree tree) {
            Check.isTrue(rule + ": " + tree, false);
        }

        @Override
        public Void visitClass(ClassTree tree, Void none) {
            TypeElement type = (TypeElement) here();
            classes.add(type);
            boolean isInside = type.getNestingKind().isNested();
            Check.isTrue("rule 2: no anonymous or local class", !tree.getSimpleName().isEmpty());
            Check.isTrue("rule 1: " + type, !isInside || type.getModifiers().contains(Modifier.STATIC));
            return super.visitClass(tree, none);
        }

        @Override
        public Void visitVariable(VariableTree tree, Void none) {
            Element variable = here();
            if (variable.getKind() == ElementKind.FIELD) {
                boolean isStatic = variable.getModifiers().contains(Modifier.STATIC);
                boolean isFinal = variable.getModifiers().contains(Modifier.FINAL);
                Check.isTrue("rule 5: " + variable, !isStatic || isFinal);
                fields.merge((TypeElement) variable.getEnclosingElement(), isStatic ? 0 : 1, Integer::sum);
            }
            return super.visitVariable(tree, none);
        }

        @Override
        public Void visitMethod(MethodTree tree, Void none) {
            inside = (ExecutableElement) here();
            calls.putIfAbsent(inside, new LinkedHashSet<>());
            CompilationUnitTree unit = getCurrentPath().getCompilationUnit();
            SourcePositions places = trees.getSourcePositions();
            long first = unit.getLineMap().getLineNumber(Math.max(0, places.getStartPosition(unit, tree)));
            long last = unit.getLineMap().getLineNumber(Math.max(0, places.getEndPosition(unit, tree)));
            Check.isTrue("rule 11: lines of " + inside, last - first < LONGEST_METHOD);
            Check.isTrue("rule 11: parameters of " + inside, tree.getParameters().size() <= MOST_PARAMETERS);
            super.visitMethod(tree, none);
            inside = null;
            return null;
        }

        @Override
        public Void visitMethodInvocation(MethodInvocationTree tree, Void none) {
            noteCall((ExecutableElement) here());
            return super.visitMethodInvocation(tree, none);
        }

        @Override
        public Void visitNewClass(NewClassTree tree, Void none) {
            boolean isThrown = getCurrentPath().getParentPath().getLeaf() instanceof ThrowTree;
            if (!isThrown) {
                noteCall((ExecutableElement) here());
            }
            return super.visitNewClass(tree, none);
        }

        private void noteCall(ExecutableElement called) {
            String owner = called.getEnclosingElement().toString();
            boolean isOwn = owner.equals("TelecontrolPost") || owner.startsWith("TelecontrolPost.");
            Check.isTrue("rule 4: " + owner + "." + called,
                    isOwn || LIBRARY.contains(owner + "." + called.getSimpleName()));
            if (inside != null) {
                calls.get(inside).add(called);
            }
        }

        @Override
        public Void visitThrow(ThrowTree tree, Void none) {
            boolean isNew = tree.getExpression() instanceof NewClassTree;
            Check.isTrue("rule 6: " + tree, isNew);
            if (tree.getExpression() instanceof NewClassTree made) {
                Check.isTrue("rule 6: " + tree, THROWN.contains(made.getIdentifier().toString()));
            }
            boolean isInFace = inside != null && inside.getKind() == ElementKind.METHOD
                    && inside.getModifiers().contains(Modifier.PUBLIC);
            Check.isTrue("rule 6, only the face throws: " + tree, isInFace);
            return super.visitThrow(tree, none);
        }

        @Override
        public Void visitForLoop(ForLoopTree tree, Void none) {
            hasEnd(tree, tree.getCondition());
            return super.visitForLoop(tree, none);
        }

        @Override
        public Void visitWhileLoop(WhileLoopTree tree, Void none) {
            hasEnd(tree, ((ParenthesizedTree) tree.getCondition()).getExpression());
            return super.visitWhileLoop(tree, none);
        }

        private void hasEnd(Tree loop, ExpressionTree condition) {
            Check.isTrue("rule 9: " + loop, condition != null && !(condition instanceof LiteralTree));
        }

        @Override
        public Void visitImport(ImportTree tree, Void none) {
            never("rule 4", tree);
            return null;
        }

        @Override
        public Void visitLambdaExpression(LambdaExpressionTree tree, Void none) {
            never("rule 2", tree);
            return null;
        }

        @Override
        public Void visitMemberReference(MemberReferenceTree tree, Void none) {
            never("rule 2", tree);
            return null;
        }

        @Override
        public Void visitTry(TryTree tree, Void none) {
            never("rule 6, nothing here needs it", tree);
            return null;
        }

        @Override
        public Void visitSynchronized(SynchronizedTree tree, Void none) {
            never("rule 6", tree);
            return null;
        }

        @Override
        public Void visitAssert(AssertTree tree, Void none) {
            never("rule 6", tree);
            return null;
        }

        @Override
        public Void visitInstanceOf(InstanceOfTree tree, Void none) {
            never("rule 6, nothing here needs it", tree);
            return null;
        }

        @Override
        public Void visitTypeCast(TypeCastTree tree, Void none) {
            Check.isTrue("rule 6: " + tree, tree.getType().getKind() == Tree.Kind.PRIMITIVE_TYPE);
            return super.visitTypeCast(tree, none);
        }
    }
}
