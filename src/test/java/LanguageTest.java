import com.sun.source.tree.AssertTree;
import com.sun.source.tree.ClassTree;
import com.sun.source.tree.CompilationUnitTree;
import com.sun.source.tree.DoWhileLoopTree;
import com.sun.source.tree.ForLoopTree;
import com.sun.source.tree.IdentifierTree;
import com.sun.source.tree.InstanceOfTree;
import com.sun.source.tree.LambdaExpressionTree;
import com.sun.source.tree.MemberReferenceTree;
import com.sun.source.tree.MemberSelectTree;
import com.sun.source.tree.MethodInvocationTree;
import com.sun.source.tree.MethodTree;
import com.sun.source.tree.NewArrayTree;
import com.sun.source.tree.NewClassTree;
import com.sun.source.tree.SynchronizedTree;
import com.sun.source.tree.ThrowTree;
import com.sun.source.tree.Tree;
import com.sun.source.tree.TryTree;
import com.sun.source.tree.TypeCastTree;
import com.sun.source.tree.VariableTree;
import com.sun.source.tree.WhileLoopTree;
import com.sun.source.util.JavacTask;
import com.sun.source.util.TreeScanner;
import com.sun.source.util.Trees;
import java.io.IOException;
import java.nio.file.Files;
import java.nio.file.Path;
import java.util.List;
import java.util.Map;
import java.util.Set;
import java.util.TreeMap;
import java.util.TreeSet;
import java.util.regex.Pattern;
import javax.lang.model.element.Modifier;
import javax.tools.JavaCompiler;
import javax.tools.StandardJavaFileManager;
import javax.tools.ToolProvider;

/** The rules of LANGUAGE.md that can be seen from the program's text; .ci/run starts it in the root. */
public final class LanguageTest {
    private static final Path PROGRAM = Path.of("src/main/java/MixedCells.java");
    private static final String[] NO_WORDS = {
        "throw", "throws", "try", "catch", "finally", "synchronized", "assert", "import", "package", "protected",
        "native", "volatile", "transient", "var", "equals", "hashCode", "toString", "System\\.out", "\\w+Exact",
    };
    /* All that the program takes from the library; rule 4 has more. */
    private static final Set<String> LIBRARY = Set.of(
            "Math.abs", "Math.min", "Math.max", "Integer.compare", "Integer.numberOfTrailingZeros");
    /* Rule 3, and the program's own classes. */
    private static final Set<String> TYPES = Set.of(
            "int", "int[]", "int[][]", "long", "boolean", "Body", "Body[]", "Region", "Cell", "Cell[]", "Cutting");

    public static void main(String[] args) throws IOException {
        words();
        JavaCompiler compiler = ToolProvider.getSystemJavaCompiler();
        try (StandardJavaFileManager files = compiler.getStandardFileManager(null, null, null)) {
            JavacTask task = (JavacTask) compiler.getTask(null, files, null, null, null, files.getJavaFileObjects(PROGRAM));
            for (CompilationUnitTree unit : task.parse()) {
                Rules rules = new Rules(unit, Trees.instance(task));
                rules.scan(unit, null);
                rules.ofTheWhole();
            }
        }
        Due.end();
    }

    private static void words() throws IOException {
        String text = Files.readString(PROGRAM);
        String code = text.replaceAll("(?s)/\\*.*?\\*/", " ").replaceAll("//[^\n]*", " ");
        for (String word : NO_WORDS) {
            Due.holds("without " + word, !Pattern.compile("\\b" + word + "\\b").matcher(code).find());
        }
        Due.holds("the signs are 1 to 127", text.chars().allMatch(c -> c >= 1 && c <= 127));
    }

    private static final class Rules extends TreeScanner<Void, Void> {
        private final CompilationUnitTree unit;
        private final Trees trees;
        private final Map<String, Set<String>> calls = new TreeMap<>();
        private int classes = 0;
        private String method = "";
        /* A constructor or a field's first value; all else is a call. */
        private boolean isMaking = true;

        Rules(CompilationUnitTree unit, Trees trees) {
            this.unit = unit;
            this.trees = trees;
        }

        private long line(long position) {
            return unit.getLineMap().getLineNumber(position);
        }

        private void rule(int number, Tree at, String what, boolean holds) {
            long line = line(trees.getSourcePositions().getStartPosition(unit, at));
            Due.holds("rule " + number + ", line " + line + ": " + what, holds);
        }

        void ofTheWhole() {
            Due.holds("rule 11: twelve classes at most", classes <= 12);
            for (String name : calls.keySet()) {
                Due.holds("rule 11: calls from " + name + " go at most eight deep, and none comes back to it",
                        depth(name, 0) <= 8);
            }
        }

        private int depth(String name, int from) {
            int deepest = 0;
            for (String called : calls.get(name)) {
                if (calls.containsKey(called) && from < 9) {
                    deepest = Math.max(deepest, depth(called, from + 1));
                }
            }
            return deepest + 1;
        }

        @Override
        public Void visitClass(ClassTree c, Void none) {
            Set<Modifier> modifiers = c.getModifiers().getFlags();
            rule(2, c, "a class inside is static and private", classes == 0
                    || modifiers.contains(Modifier.STATIC) && modifiers.contains(Modifier.PRIVATE));
            classes++;
            int fields = 0;
            for (Tree member : c.getMembers()) {
                boolean isField = member instanceof VariableTree;
                rule(5, member, "no initialiser block", member.getKind() != Tree.Kind.BLOCK);
                if (isField && !isStatic((VariableTree) member)) {
                    fields++;
                }
            }
            rule(11, c, "twenty fields at most", fields <= 20);
            return super.visitClass(c, none);
        }

        private static boolean isStatic(VariableTree v) {
            return v.getModifiers().getFlags().contains(Modifier.STATIC);
        }

        @Override
        public Void visitMethod(MethodTree m, Void none) {
            method = m.getName().toString();
            calls.computeIfAbsent(method, name -> new TreeSet<>());
            rule(11, m, "seven parameters at most", m.getParameters().size() <= 7);
            long from = line(trees.getSourcePositions().getStartPosition(unit, m));
            long to = line(trees.getSourcePositions().getEndPosition(unit, m));
            rule(11, m, "sixty lines at most", to - from < 60);
            isMaking = m.getReturnType() == null;
            super.visitMethod(m, none);
            isMaking = true;
            return null;
        }

        @Override
        public Void visitVariable(VariableTree v, Void none) {
            rule(3, v, "the type " + v.getType(), TYPES.contains(v.getType().toString()));
            if (isStatic(v)) {
                rule(5, v, "static fields are constants of int",
                        v.getModifiers().getFlags().contains(Modifier.FINAL) && v.getType().toString().equals("int"));
            }
            return super.visitVariable(v, none);
        }

        @Override
        public Void visitMethodInvocation(MethodInvocationTree call, Void none) {
            Tree called = call.getMethodSelect();
            if (called instanceof IdentifierTree name) {
                calls.get(method).add(name.getName().toString());
            } else if (called instanceof MemberSelectTree select) {
                boolean isOfLibrary = Character.isUpperCase(select.getExpression().toString().charAt(0));
                rule(4, call, "the library's " + select, !isOfLibrary || LIBRARY.contains(select.toString()));
                if (!isOfLibrary) {
                    calls.get(method).add(select.getIdentifier().toString());
                }
            }
            return super.visitMethodInvocation(call, none);
        }

        @Override
        public Void visitNewClass(NewClassTree made, Void none) {
            rule(2, made, "no anonymous class", made.getClassBody() == null);
            rule(4, made, "no class of the library", TYPES.contains(made.getIdentifier().toString()));
            rule(12, made, "calls make no objects", isMaking);
            return super.visitNewClass(made, none);
        }

        @Override
        public Void visitNewArray(NewArrayTree made, Void none) {
            rule(12, made, "calls make no arrays", isMaking);
            return super.visitNewArray(made, none);
        }

        @Override
        public Void visitForLoop(ForLoopTree loop, Void none) {
            rule(9, loop, "the loop has an end", loop.getCondition() != null);
            return super.visitForLoop(loop, none);
        }

        @Override
        public Void visitWhileLoop(WhileLoopTree loop, Void none) {
            rule(9, loop, "the loop counts against a bound", loop.getCondition().toString().matches("\\(\\w+ > \\w+ && .*"));
            return super.visitWhileLoop(loop, none);
        }

        @Override
        public Void visitDoWhileLoop(DoWhileLoopTree loop, Void none) {
            rule(9, loop, "no loop whose end is looked at last", false);
            return super.visitDoWhileLoop(loop, none);
        }

        @Override
        public Void visitLambdaExpression(LambdaExpressionTree l, Void none) {
            rule(2, l, "no lambda", false);
            return super.visitLambdaExpression(l, none);
        }

        @Override
        public Void visitMemberReference(MemberReferenceTree r, Void none) {
            rule(2, r, "no method reference", false);
            return super.visitMemberReference(r, none);
        }

        @Override
        public Void visitTry(TryTree t, Void none) {
            rule(6, t, "no try", false);
            return super.visitTry(t, none);
        }

        @Override
        public Void visitThrow(ThrowTree t, Void none) {
            rule(6, t, "no throw", false);
            return super.visitThrow(t, none);
        }

        @Override
        public Void visitSynchronized(SynchronizedTree s, Void none) {
            rule(6, s, "no synchronized", false);
            return super.visitSynchronized(s, none);
        }

        @Override
        public Void visitAssert(AssertTree a, Void none) {
            rule(6, a, "no assert", false);
            return super.visitAssert(a, none);
        }

        @Override
        public Void visitTypeCast(TypeCastTree cast, Void none) {
            rule(6, cast, "no cast is needed", false);
            return super.visitTypeCast(cast, none);
        }

        @Override
        public Void visitInstanceOf(InstanceOfTree i, Void none) {
            rule(6, i, "no instanceof is needed", false);
            return super.visitInstanceOf(i, none);
        }
    }
}
