import com.sun.source.tree.BinaryTree;
import com.sun.source.tree.ClassTree;
import com.sun.source.tree.CompilationUnitTree;
import com.sun.source.tree.ImportTree;
import com.sun.source.tree.MethodInvocationTree;
import com.sun.source.tree.MethodTree;
import com.sun.source.tree.NewArrayTree;
import com.sun.source.tree.NewClassTree;
import com.sun.source.tree.ThrowTree;
import com.sun.source.tree.Tree;
import com.sun.source.tree.VariableTree;
import com.sun.source.util.JavacTask;
import com.sun.source.util.SourcePositions;
import com.sun.source.util.TreePathScanner;
import com.sun.source.util.Trees;
import java.io.IOException;
import java.nio.file.Path;
import java.util.ArrayDeque;
import java.util.Deque;
import java.util.EnumSet;
import java.util.List;
import java.util.Map;
import java.util.Set;
import java.util.TreeMap;
import java.util.TreeSet;
import javax.lang.model.element.Element;
import javax.lang.model.element.ElementKind;
import javax.lang.model.element.ExecutableElement;
import javax.lang.model.element.Modifier;
import javax.lang.model.type.TypeKind;
import javax.lang.model.type.TypeMirror;
import javax.tools.JavaCompiler;
import javax.tools.StandardJavaFileManager;
import javax.tools.ToolProvider;

/** The rules of ../shared/LANGUAGE.md that can be seen in the source; narrower where the class needs less. */
public final class RulesTest {
    private static final Check CHECK = new Check();
    private static final Set<String> LIBRARY = Set.of("java.lang.Math.max", "java.lang.Math.min", "java.lang.Math.abs",
            "java.lang.Integer.bitCount", "java.lang.System.arraycopy");
    private static final Set<String> STATIC_TYPES = Set.of("int", "long", "boolean", "char", "java.lang.String", "int[]",
            "long[]", "char[]", "byte[]");
    private static final Set<String> MAY_BE_THROWN = Set.of("IndexOutOfBoundsException", "NoSuchElementException");
    private static final Set<Tree.Kind> NEVER = EnumSet.of(Tree.Kind.LAMBDA_EXPRESSION, Tree.Kind.MEMBER_REFERENCE,
            Tree.Kind.SYNCHRONIZED, Tree.Kind.ASSERT, Tree.Kind.TRY, Tree.Kind.FLOAT_LITERAL, Tree.Kind.DOUBLE_LITERAL,
            Tree.Kind.SWITCH_EXPRESSION, Tree.Kind.INSTANCE_OF);
    private static final int MOST_CLASSES = 12;
    private static final int MOST_FIELDS = 20;
    private static final int MOST_LINES = 60;
    private static final int MOST_PARAMETERS = 7;
    private static final int DEEPEST = 8;

    private RulesTest() {
    }

    public static void main(String[] args) throws IOException {
        JavaCompiler compiler = ToolProvider.getSystemJavaCompiler();
        try (StandardJavaFileManager files = compiler.getStandardFileManager(null, null, null)) {
            JavacTask task = (JavacTask) compiler.getTask(null, files, null, List.of("-proc:none"), null,
                    files.getJavaFileObjects(Path.of("src/main/java/BidLines.java")));
            List<CompilationUnitTree> units = new java.util.ArrayList<>();
            task.parse().forEach(units::add);
            task.analyze();
            CHECK.due("one file", units.size(), 1);
            Reading reading = new Reading(Trees.instance(task), units.get(0));
            reading.scan(units.get(0), null);
            reading.judge();
        }
        CHECK.finish("RulesTest");
    }

    /** Goes over the whole file once. */
    private static final class Reading extends TreePathScanner<Void, Void> {
        private final Trees trees;
        private final CompilationUnitTree unit;
        private final Map<String, Set<String>> calls = new TreeMap<>();
        private final Deque<String> within = new ArrayDeque<>();
        private final Set<String> throwing = new TreeSet<>();
        private int classes = 0;

        Reading(Trees trees, CompilationUnitTree unit) {
            this.trees = trees;
            this.unit = unit;
        }

        @Override
        public Void scan(Tree tree, Void p) {
            if (tree != null) {
                CHECK.due(tree.getKind() + " in line " + lineOf(tree), NEVER.contains(tree.getKind()), false);
            }
            return super.scan(tree, p);
        }

        @Override
        public Void visitCompilationUnit(CompilationUnitTree tree, Void p) {
            CHECK.due("rule 1: no package", tree.getPackageName() == null, true);
            CHECK.due("rule 1: one class outside", tree.getTypeDecls().size(), 1);
            for (ImportTree i : tree.getImports()) {
                String name = i.getQualifiedIdentifier().toString();
                CHECK.due("rule 4: import " + name, name.equals("java.util.NoSuchElementException"), true);
            }
            return super.visitCompilationUnit(tree, p);
        }

        @Override
        public Void visitClass(ClassTree tree, Void p) {
            classes++;
            int fields = 0;
            for (Tree member : tree.getMembers()) {
                CHECK.due("rule 5: a block in line " + lineOf(member), member.getKind() == Tree.Kind.BLOCK, false);
                if (member instanceof VariableTree field) {
                    fields += field.getModifiers().getFlags().contains(Modifier.STATIC) ? 0 : 1;
                }
            }
            CHECK.due("rule 11: " + fields + " fields of " + tree.getSimpleName(), fields <= MOST_FIELDS, true);
            return super.visitClass(tree, p);
        }

        @Override
        public Void visitMethod(MethodTree tree, Void p) {
            String name = nameOf((ExecutableElement) trees.getElement(getCurrentPath()));
            SourcePositions at = trees.getSourcePositions();
            long last = unit.getLineMap().getLineNumber(Math.max(0, at.getEndPosition(unit, tree) - 1));
            long lines = last - lineOf(tree) + 1;
            CHECK.due("rule 11: " + lines + " lines of " + name, lines <= MOST_LINES, true);
            CHECK.due("rule 11: parameters of " + name, tree.getParameters().size() <= MOST_PARAMETERS, true);
            calls.putIfAbsent(name, new TreeSet<>());
            within.push(name);
            super.visitMethod(tree, p);
            within.pop();
            return null;
        }

        @Override
        public Void visitVariable(VariableTree tree, Void p) {
            Element e = trees.getElement(getCurrentPath());
            TypeMirror type = e.asType();
            TypeMirror inner = type;
            while (inner.getKind() == TypeKind.ARRAY) {
                inner = ((javax.lang.model.type.ArrayType) inner).getComponentType();
            }
            boolean real = inner.getKind() == TypeKind.DOUBLE || inner.getKind() == TypeKind.FLOAT;
            CHECK.due("rule 3: the class needs no such numbers: " + tree.getName(), real, false);
            if (e.getKind() == ElementKind.FIELD && e.getModifiers().contains(Modifier.STATIC)) {
                CHECK.due("rule 5: final " + tree.getName(), e.getModifiers().contains(Modifier.FINAL), true);
                CHECK.due("rule 5: type of " + tree.getName(), STATIC_TYPES.contains(type.toString()), true);
            }
            return super.visitVariable(tree, p);
        }

        @Override
        public Void visitMethodInvocation(MethodInvocationTree tree, Void p) {
            ExecutableElement called = (ExecutableElement) trees.getElement(getCurrentPath());
            String name = nameOf(called);
            if (called.getKind() == ElementKind.METHOD) {
                boolean own = name.startsWith("BidLines");
                CHECK.due("rule 4: " + name + " in line " + lineOf(tree), own || LIBRARY.contains(name), true);
                if (!within.isEmpty()) {
                    calls.get(within.peek()).add(name);
                }
            }
            return super.visitMethodInvocation(tree, p);
        }

        @Override
        public Void visitNewClass(NewClassTree tree, Void p) {
            String name = tree.getIdentifier().toString();
            CHECK.due("rule 12: " + name + " is made in line " + lineOf(tree),
                    within.isEmpty() || isMaking() || MAY_BE_THROWN.contains(name), true);
            return super.visitNewClass(tree, p);
        }

        @Override
        public Void visitNewArray(NewArrayTree tree, Void p) {
            CHECK.due("rule 12: a row is made in line " + lineOf(tree), within.isEmpty() || isMaking(), true);
            return super.visitNewArray(tree, p);
        }

        /** Whether a constructor is gone over; all is made there, so a run of calls makes nothing more. */
        private boolean isMaking() {
            return within.peek().endsWith(".<init>");
        }

        @Override
        public Void visitThrow(ThrowTree tree, Void p) {
            CHECK.due("rule 6: throw new in line " + lineOf(tree), tree.getExpression() instanceof NewClassTree, true);
            throwing.add(within.isEmpty() ? "" : within.peek());
            return super.visitThrow(tree, p);
        }

        @Override
        public Void visitBinary(BinaryTree tree, Void p) {
            TypeMirror type = trees.getTypeMirror(getCurrentPath());
            boolean joined = type != null && type.toString().equals("java.lang.String");
            CHECK.due("rule 10: texts joined in line " + lineOf(tree), joined, false);
            return super.visitBinary(tree, p);
        }

        private long lineOf(Tree tree) {
            long at = trees.getSourcePositions().getStartPosition(unit, tree);
            return at < 0 ? 0 : unit.getLineMap().getLineNumber(at);
        }

        private static String nameOf(ExecutableElement e) {
            return e.getEnclosingElement() + "." + e.getSimpleName();
        }

        void judge() {
            CHECK.due("rule 11: " + classes + " classes", classes <= MOST_CLASSES, true);
            CHECK.dueSame("rule 6: what throws", throwing.toString(), "[BidLines.house]");
            for (String name : calls.keySet()) {
                int deep = depthOf(name, DEEPEST);
                CHECK.due("rules 8, 11: calls go no deeper than " + DEEPEST + " from " + name, deep <= DEEPEST, true);
            }
        }

        /** How many calls stand open at once, this one counted; one more than may be, if it goes deeper or in a ring. */
        private int depthOf(String name, int left) {
            int most = 0;
            if (left > 0) {
                for (String next : calls.getOrDefault(name, Set.of())) {
                    most = Math.max(most, depthOf(next, left - 1));
                }
            }
            return most + 1;
        }
    }
}
