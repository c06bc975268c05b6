import com.sun.source.tree.AssertTree;
import com.sun.source.tree.BinaryTree;
import com.sun.source.tree.BlockTree;
import com.sun.source.tree.ClassTree;
import com.sun.source.tree.CompilationUnitTree;
import com.sun.source.tree.DoWhileLoopTree;
import com.sun.source.tree.ExpressionTree;
import com.sun.source.tree.ForLoopTree;
import com.sun.source.tree.LambdaExpressionTree;
import com.sun.source.tree.LiteralTree;
import com.sun.source.tree.MemberReferenceTree;
import com.sun.source.tree.MethodInvocationTree;
import com.sun.source.tree.MethodTree;
import com.sun.source.tree.NewArrayTree;
import com.sun.source.tree.NewClassTree;
import com.sun.source.tree.SynchronizedTree;
import com.sun.source.tree.ThrowTree;
import com.sun.source.tree.Tree;
import com.sun.source.tree.TryTree;
import com.sun.source.tree.VariableTree;
import com.sun.source.tree.WhileLoopTree;
import com.sun.source.util.JavacTask;
import com.sun.source.util.TreePath;
import com.sun.source.util.TreePathScanner;
import com.sun.source.util.Trees;
import java.io.IOException;
import java.nio.file.Path;
import java.util.ArrayList;
import java.util.HashMap;
import java.util.LinkedHashSet;
import java.util.List;
import java.util.Map;
import java.util.Set;
import javax.lang.model.element.Element;
import javax.lang.model.element.Modifier;
import javax.tools.JavaCompiler;
import javax.tools.StandardJavaFileManager;
import javax.tools.ToolProvider;

/**
 * The rules of LANGUAGE.md that can be seen in the text of the program (FaceTest has rule 1). Where
 * the program needs less than a rule allows, the lesser is asked for: it makes no list and no text,
 * and objects in constructors alone.
 */
public final class LanguageTest {
    private static final Check CHECK = new Check("Language");
    private static final Set<String> TYPES = Set.of("int", "long", "boolean", "int[]", "long[]");
    private static final Set<String> CONSTANTS = Set.of("int", "long");
    private static final Set<String> LIBRARY =
            Set.of("System.arraycopy", "Integer.bitCount", "Long.bitCount", "Object.<init>");
    private static final Set<String> EXCEPTIONS = Set.of("IllegalArgumentException", "IllegalStateException");
    private static final int MOST_PARAMETERS = 7;
    private static final int MOST_LINES = 60;
    private static final int MOST_FIELDS = 20;
    private static final int MOST_CLASSES = 12;
    private static final int DEEPEST_CALL = 8;

    public static void main(String[] args) throws IOException {
        JavaCompiler compiler = ToolProvider.getSystemJavaCompiler();
        try (StandardJavaFileManager files = compiler.getStandardFileManager(null, null, null)) {
            JavacTask task = (JavacTask) compiler.getTask(null, files, null, List.of("--release", "17"), null,
                    files.getJavaFileObjects(Path.of("src/main/java/WaveLedger.java")));
            CompilationUnitTree unit = task.parse().iterator().next();
            task.analyze();
            CHECK.due("no package line", true, unit.getPackage() == null);
            CHECK.due("rule 4, no import", 0, unit.getImports().size());
            CHECK.due("one class in the file", 1, unit.getTypeDecls().size());
            Reader reader = new Reader(unit, Trees.instance(task));
            reader.scan(unit, null);
            reader.end();
        }
        CHECK.end();
    }

    private static final class Reader extends TreePathScanner<Void, Void> {
        private final CompilationUnitTree unit;
        private final Trees trees;
        private final Set<String> ownClasses = new LinkedHashSet<>();
        private final Map<Element, Set<Element>> calls = new HashMap<>();
        private final List<String> typesSeen = new ArrayList<>();

        Reader(CompilationUnitTree unit, Trees trees) {
            this.unit = unit;
            this.trees = trees;
        }

        void end() {
            CHECK.due("rule 11, few classes: " + ownClasses, true, ownClasses.size() <= MOST_CLASSES);
            for (String type : typesSeen) {
                boolean own = ownClasses.contains(type.replace("[]", ""));
                CHECK.due("rule 3, a type: " + type, true, TYPES.contains(type) || own && !type.endsWith("[][]"));
            }
            for (Element method : calls.keySet()) {
                CHECK.due("rules 8 and 11, no call too deep: " + method, true, deepest(method, 0) <= DEEPEST_CALL);
            }
        }

        /** Recursion goes beyond every bound, so the bound ends the search, too. */
        private int deepest(Element method, int open) {
            int most = 1;
            if (open <= DEEPEST_CALL) {
                for (Element called : calls.getOrDefault(method, Set.of())) {
                    most = Math.max(most, 1 + deepest(called, open + 1));
                }
            }
            return most;
        }

        private String at(Tree tree) {
            return " (line " + line(trees.getSourcePositions().getStartPosition(unit, tree)) + ")";
        }

        private long line(long position) {
            return unit.getLineMap().getLineNumber(position);
        }

        private void refuse(String what, Tree tree) {
            CHECK.due(what + at(tree), "none", "one");
        }

        private Element here(Tree tree) {
            return trees.getElement(new TreePath(getCurrentPath(), tree));
        }

        private MethodTree methodAround() {
            for (TreePath path = getCurrentPath(); path != null; path = path.getParentPath()) {
                if (path.getLeaf() instanceof MethodTree method) {
                    return method;
                }
            }
            return null;
        }

        private boolean inConstructorOrField() {
            MethodTree method = methodAround();
            return method == null || method.getReturnType() == null;
        }

        @Override
        public Void visitClass(ClassTree tree, Void none) {
            ownClasses.add(tree.getSimpleName().toString());
            int fields = 0;
            for (Tree member : tree.getMembers()) {
                if (member instanceof VariableTree field && !field.getModifiers().getFlags().contains(Modifier.STATIC)) {
                    fields++;
                }
                if (member instanceof BlockTree) {
                    refuse("rule 5, an initialiser block", member);
                }
            }
            CHECK.due("rule 11, few fields" + at(tree), true, fields <= MOST_FIELDS);
            CHECK.due("rule 2, no class in a method" + at(tree), true, methodAround() == null);
            return super.visitClass(tree, none);
        }

        @Override
        public Void visitVariable(VariableTree tree, Void none) {
            String type = tree.getType().toString();
            typesSeen.add(type);
            Set<Modifier> flags = tree.getModifiers().getFlags();
            if (flags.contains(Modifier.STATIC)) {
                CHECK.due("rule 5, a constant" + at(tree), true,
                        flags.contains(Modifier.FINAL) && CONSTANTS.contains(type));
            }
            return super.visitVariable(tree, none);
        }

        @Override
        public Void visitMethod(MethodTree tree, Void none) {
            long first = line(trees.getSourcePositions().getStartPosition(unit, tree));
            long last = line(trees.getSourcePositions().getEndPosition(unit, tree));
            CHECK.due("rule 11, a short method" + at(tree), true, last - first < MOST_LINES);
            CHECK.due("rule 11, few parameters" + at(tree), true, tree.getParameters().size() <= MOST_PARAMETERS);
            if (tree.getReturnType() != null && !tree.getReturnType().toString().equals("void")) {
                typesSeen.add(tree.getReturnType().toString());
            }
            calls.putIfAbsent(trees.getElement(getCurrentPath()), new LinkedHashSet<>());
            return super.visitMethod(tree, none);
        }

        @Override
        public Void visitMethodInvocation(MethodInvocationTree tree, Void none) {
            called(here(tree.getMethodSelect()), tree);
            return super.visitMethodInvocation(tree, none);
        }

        private void called(Element method, Tree tree) {
            Element owner = method.getEnclosingElement();
            boolean own = owner.toString().startsWith("WaveLedger");
            String name = owner.getSimpleName() + "." + method.getSimpleName();
            CHECK.due("rule 4, of the library: " + name + at(tree), true, own || LIBRARY.contains(name));
            MethodTree around = methodAround();
            if (own && around != null) {
                calls.computeIfAbsent(trees.getElement(trees.getPath(unit, around)), key -> new LinkedHashSet<>())
                        .add(method);
            }
        }

        @Override
        public Void visitNewClass(NewClassTree tree, Void none) {
            String type = tree.getIdentifier().toString();
            boolean thrown = EXCEPTIONS.contains(type) && getCurrentPath().getParentPath().getLeaf() instanceof ThrowTree;
            CHECK.due("the room, a new " + type + at(tree), true, thrown || inConstructorOrField());
            Element made = trees.getElement(getCurrentPath());
            if (!thrown && made != null) {
                called(made, tree);
            }
            return super.visitNewClass(tree, none);
        }

        @Override
        public Void visitNewArray(NewArrayTree tree, Void none) {
            CHECK.due("the room, a new row" + at(tree), true, inConstructorOrField());
            typesSeen.add(tree.getType() + "[]");
            return super.visitNewArray(tree, none);
        }

        @Override
        public Void visitThrow(ThrowTree tree, Void none) {
            CHECK.due("rule 6, no throw in a constructor" + at(tree), false, inConstructorOrField());
            ExpressionTree thrown = tree.getExpression();
            boolean plain = thrown instanceof NewClassTree made && EXCEPTIONS.contains(made.getIdentifier().toString())
                    && made.getArguments().stream().allMatch(text -> text.getKind() == Tree.Kind.STRING_LITERAL);
            CHECK.due("rule 6, throw new E(\"a written text\")" + at(tree), true, plain);
            return super.visitThrow(tree, none);
        }

        @Override
        public Void visitBinary(BinaryTree tree, Void none) {
            boolean text = tree.getLeftOperand().getKind() == Tree.Kind.STRING_LITERAL
                    || tree.getRightOperand().getKind() == Tree.Kind.STRING_LITERAL;
            CHECK.due("rule 10, no text joined by +" + at(tree), false, text);
            return super.visitBinary(tree, none);
        }

        private void bounded(ExpressionTree condition, Tree loop) {
            boolean asks = condition != null && condition.toString().matches("(?s).*[<>].*");
            CHECK.due("rule 9, a bound in the loop's own lines" + at(loop), true, asks);
        }

        @Override
        public Void visitForLoop(ForLoopTree tree, Void none) {
            bounded(tree.getCondition(), tree);
            return super.visitForLoop(tree, none);
        }

        @Override
        public Void visitWhileLoop(WhileLoopTree tree, Void none) {
            bounded(tree.getCondition(), tree);
            return super.visitWhileLoop(tree, none);
        }

        @Override
        public Void visitDoWhileLoop(DoWhileLoopTree tree, Void none) {
            bounded(tree.getCondition(), tree);
            return super.visitDoWhileLoop(tree, none);
        }

        @Override
        public Void visitLambdaExpression(LambdaExpressionTree tree, Void none) {
            refuse("rule 2, a lambda", tree);
            return super.visitLambdaExpression(tree, none);
        }

        @Override
        public Void visitMemberReference(MemberReferenceTree tree, Void none) {
            refuse("rule 2, a method reference", tree);
            return super.visitMemberReference(tree, none);
        }

        @Override
        public Void visitTry(TryTree tree, Void none) {
            refuse("rule 6, a try", tree);
            return super.visitTry(tree, none);
        }

        @Override
        public Void visitSynchronized(SynchronizedTree tree, Void none) {
            refuse("rule 6, synchronized", tree);
            return super.visitSynchronized(tree, none);
        }

        @Override
        public Void visitAssert(AssertTree tree, Void none) {
            refuse("rule 6, an assert", tree);
            return super.visitAssert(tree, none);
        }

        @Override
        public Void visitLiteral(LiteralTree tree, Void none) {
            if (tree.getValue() instanceof String text) {
                CHECK.due("rule 3, characters 0 to 255" + at(tree), true, text.chars().allMatch(c -> c <= 255));
            }
            return super.visitLiteral(tree, none);
        }
    }
}
