import com.sun.source.tree.AssertTree;
import com.sun.source.tree.ClassTree;
import com.sun.source.tree.CompilationUnitTree;
import com.sun.source.tree.IdentifierTree;
import com.sun.source.tree.ImportTree;
import com.sun.source.tree.LambdaExpressionTree;
import com.sun.source.tree.MemberReferenceTree;
import com.sun.source.tree.MemberSelectTree;
import com.sun.source.tree.MethodInvocationTree;
import com.sun.source.tree.MethodTree;
import com.sun.source.tree.NewClassTree;
import com.sun.source.tree.SynchronizedTree;
import com.sun.source.tree.ThrowTree;
import com.sun.source.tree.Tree;
import com.sun.source.tree.TryTree;
import com.sun.source.tree.VariableTree;
import com.sun.source.util.JavacTask;
import com.sun.source.util.SourcePositions;
import com.sun.source.util.TreeScanner;
import com.sun.source.util.Trees;
import java.nio.file.Path;
import java.util.HashMap;
import java.util.HashSet;
import java.util.Map;
import java.util.Set;
import java.util.TreeSet;
import javax.lang.model.element.Modifier;
import javax.tools.JavaCompiler;
import javax.tools.StandardJavaFileManager;
import javax.tools.ToolProvider;

/** The rules of LANGUAGE.md that can be read off the program's text; each message begins with the rule's number. */
public final class LanguageTest {
    private static final Path PROGRAM = Path.of("src/main/java/NotaryHall.java");
    private static final Set<String> IMPORTS =
            Set.of("java.util.Arrays", "java.util.ArrayList", "java.util.List", "java.util.Iterator");
    /** The part of rule 4 that a program of numbers alone can have use for. */
    private static final Set<String> LIBRARY = Set.of("Arrays.fill", "Arrays.copyOf", "Arrays.copyOfRange",
            "System.arraycopy", "Math.max", "Math.min", "Math.abs", "Math.floorDiv", "Math.floorMod",
            "Integer.bitCount", "Integer.compare");
    private static final Set<String> CONSTANT_TYPES =
            Set.of("int", "long", "boolean", "char", "String", "int[]", "long[]", "char[]", "byte[]");
    private static final int MOST_LINES = 60;
    private static final int MOST_PARAMETERS = 7;
    private static final int MOST_CLASSES = 12;
    private static final int MOST_FIELDS = 20;
    private static final int DEEPEST_CALL = 8;

    private static final Check check = new Check();

    public static void main(String[] args) throws Exception {
        JavaCompiler compiler = ToolProvider.getSystemJavaCompiler();
        try (StandardJavaFileManager files = compiler.getStandardFileManager(null, null, null)) {
            JavacTask task = (JavacTask) compiler.getTask(null, files, null, null, null,
                    files.getJavaFileObjects(PROGRAM));
            CompilationUnitTree unit = task.parse().iterator().next();
            Reader reader = new Reader(unit, Trees.instance(task).getSourcePositions());
            reader.scan(unit, null);
            reader.judgeWhole();
        }
        check.end();
    }

    private static void never(String what) {
        check.due(what, true, false);
    }

    private static final class Reader extends TreeScanner<Void, Void> {
        private final CompilationUnitTree unit;
        private final SourcePositions positions;
        private final Set<String> publicNames = new HashSet<>();
        private final Set<String> privateNames = new HashSet<>();
        /** By the name of a method: the names of the methods that it calls, all classes taken together. */
        private final Map<String, Set<String>> calls = new HashMap<>();
        /** By the text of a call, such as Math.max: the name of the method. */
        private final Map<String, String> called = new HashMap<>();
        private int classes;
        private String method = "";

        Reader(CompilationUnitTree unit, SourcePositions positions) {
            this.unit = unit;
            this.positions = positions;
        }

        void judgeWhole() {
            check.due("the program has no package", unit.getPackageName() == null, true);
            check.due("1: one class in the file", unit.getTypeDecls().size(), 1);
            check.due("11: too many classes, " + classes, classes > MOST_CLASSES, false);
            for (String name : privateNames) {
                check.due("1: " + name + " bears a public method's name", publicNames.contains(name), false);
            }
            called.remove("super");
            called.forEach((text, name) ->
                    check.due("4: the call of " + text, calls.containsKey(name) || LIBRARY.contains(text), true));
            for (String name : calls.keySet()) {
                int depth = depthOf(name, 1);
                check.due("11: calls from " + name + " go " + depth + " deep", depth > DEEPEST_CALL, false);
            }
        }

        /** A recursion would go on until it is beyond what is allowed. */
        private int depthOf(String name, int depth) {
            int deepest = depth;
            if (depth <= DEEPEST_CALL) {
                for (String next : calls.get(name)) {
                    if (calls.containsKey(next)) {
                        deepest = Math.max(deepest, depthOf(next, depth + 1));
                    }
                }
            }
            return deepest;
        }

        @Override
        public Void visitImport(ImportTree tree, Void none) {
            String name = tree.getQualifiedIdentifier().toString();
            check.due("4: import of " + name, !tree.isStatic() && IMPORTS.contains(name), true);
            return null;
        }

        @Override
        public Void visitClass(ClassTree tree, Void none) {
            classes++;
            Set<Modifier> flags = tree.getModifiers().getFlags();
            boolean inside = classes > 1;
            check.due("2: " + tree.getSimpleName() + " stands inside a method", !method.isEmpty(), false);
            check.due("2: " + tree.getSimpleName() + " is static", flags.contains(Modifier.STATIC), inside);
            check.due("1: " + tree.getSimpleName() + " is public", flags.contains(Modifier.PUBLIC), !inside);
            check.due("1: " + tree.getSimpleName() + " is protected", flags.contains(Modifier.PROTECTED), false);
            int fields = 0;
            for (Tree member : tree.getMembers()) {
                check.due("5: an initialiser block", member.getKind() == Tree.Kind.BLOCK, false);
                if (member instanceof VariableTree field) {
                    fields += judgeField(field) ? 1 : 0;
                }
            }
            check.due("11: too many fields in " + tree.getSimpleName(), fields > MOST_FIELDS, false);
            return super.visitClass(tree, none);
        }

        /** Whether it is a field of each object. */
        private boolean judgeField(VariableTree field) {
            Set<Modifier> flags = field.getModifiers().getFlags();
            if (!flags.contains(Modifier.STATIC)) {
                return true;
            }
            boolean constant = flags.contains(Modifier.FINAL) && field.getInitializer() != null
                    && CONSTANT_TYPES.contains(field.getType().toString());
            check.due("5: " + field.getName() + " is a constant", constant, true);
            return false;
        }

        @Override
        public Void visitMethod(MethodTree tree, Void none) {
            method = tree.getName().toString();
            Set<Modifier> flags = tree.getModifiers().getFlags();
            long lines = lineOf(positions.getEndPosition(unit, tree))
                    - lineOf(positions.getStartPosition(unit, tree)) + 1;
            check.due("11: " + method + " has " + lines + " lines", lines > MOST_LINES, false);
            check.due("11: parameters of " + method, tree.getParameters().size() > MOST_PARAMETERS, false);
            // Constructors all bear one name here; that of Node calls one method that calls no other.
            if (!method.equals("<init>")) {
                (flags.contains(Modifier.PUBLIC) ? publicNames : privateNames).add(method);
                calls.putIfAbsent(method, new TreeSet<>());
            }
            super.visitMethod(tree, none);
            method = "";
            return null;
        }

        private long lineOf(long position) {
            return unit.getLineMap().getLineNumber(position);
        }

        @Override
        public Void visitMethodInvocation(MethodInvocationTree tree, Void none) {
            Tree select = tree.getMethodSelect();
            String name = select instanceof MemberSelectTree member ? member.getIdentifier().toString()
                    : select instanceof IdentifierTree own ? own.getName().toString() : select.toString();
            called.put(select.toString(), name);
            if (calls.containsKey(method)) {
                calls.get(method).add(name);
            }
            return super.visitMethodInvocation(tree, none);
        }

        @Override
        public Void visitNewClass(NewClassTree tree, Void none) {
            check.due("2: an anonymous class", tree.getClassBody() != null, false);
            return super.visitNewClass(tree, none);
        }

        @Override
        public Void visitLambdaExpression(LambdaExpressionTree tree, Void none) {
            never("2: a lambda");
            return null;
        }

        @Override
        public Void visitMemberReference(MemberReferenceTree tree, Void none) {
            never("2: a method reference");
            return null;
        }

        @Override
        public Void visitThrow(ThrowTree tree, Void none) {
            never("6: throw");
            return null;
        }

        @Override
        public Void visitTry(TryTree tree, Void none) {
            never("6: try");
            return null;
        }

        @Override
        public Void visitSynchronized(SynchronizedTree tree, Void none) {
            never("6: synchronized");
            return null;
        }

        @Override
        public Void visitAssert(AssertTree tree, Void none) {
            never("6: assert");
            return null;
        }
    }
}
