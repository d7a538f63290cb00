import com.sun.source.tree.AssertTree;
import com.sun.source.tree.BinaryTree;
import com.sun.source.tree.BlockTree;
import com.sun.source.tree.ClassTree;
import com.sun.source.tree.CompilationUnitTree;
import com.sun.source.tree.CompoundAssignmentTree;
import com.sun.source.tree.ExpressionTree;
import com.sun.source.tree.LambdaExpressionTree;
import com.sun.source.tree.LiteralTree;
import com.sun.source.tree.MemberReferenceTree;
import com.sun.source.tree.MethodInvocationTree;
import com.sun.source.tree.MethodTree;
import com.sun.source.tree.NewArrayTree;
import com.sun.source.tree.NewClassTree;
import com.sun.source.tree.SynchronizedTree;
import com.sun.source.tree.ThrowTree;
import com.sun.source.tree.Tree;
import com.sun.source.tree.TryTree;
import com.sun.source.tree.VariableTree;
import com.sun.source.util.JavacTask;
import com.sun.source.util.TreePath;
import com.sun.source.util.TreePathScanner;
import com.sun.source.util.Trees;
import java.io.IOException;
import java.nio.file.Files;
import java.nio.file.Path;
import java.util.ArrayList;
import java.util.HashSet;
import java.util.LinkedHashSet;
import java.util.List;
import java.util.Map;
import java.util.Set;
import java.util.TreeMap;
import javax.lang.model.element.Element;
import javax.lang.model.element.ElementKind;
import javax.lang.model.element.ExecutableElement;
import javax.lang.model.element.Modifier;
import javax.lang.model.element.TypeElement;
import javax.lang.model.element.VariableElement;
import javax.lang.model.type.ArrayType;
import javax.lang.model.type.DeclaredType;
import javax.lang.model.type.TypeKind;
import javax.lang.model.type.TypeMirror;
import javax.tools.StandardJavaFileManager;
import javax.tools.ToolProvider;

/**
 * The rules of ../shared/LANGUAGE.md that can be told from the source, as the compiler reads it, by their
 * numbers there. Rule 1 is FaceTest's; that each loop ends and each index fits (7, 9) is for a reader.
 * Run from the project's folder.
 */
public final class RulesTest {
    private static final String SOURCE = "src/main/java/DeckHands.java";
    private static final int MOST_PARAMETERS = 7, MOST_LINES = 60, MOST_DEPTH = 8, MOST_CLASSES = 12, MOST_FIELDS = 20;
    private static final Map<String, Set<String>> LIBRARY = Map.of(
        "java.lang.String", Set.of("length", "charAt", "isEmpty", "equals", "indexOf", "substring", "toCharArray"),
        "java.lang.StringBuilder", Set.of("append", "charAt", "setCharAt", "setLength", "deleteCharAt", "reverse", "length", "toString"),
        "java.util.ArrayList", Set.of("add", "get", "set", "remove", "size", "isEmpty", "clear"),
        "java.util.List", Set.of("add", "get", "set", "remove", "size", "isEmpty", "clear", "of"),
        "java.util.Arrays", Set.of("copyOf", "copyOfRange", "fill"),
        "java.lang.System", Set.of("arraycopy"),
        "java.util.Iterator", Set.of("hasNext", "next"),
        "java.lang.Comparable", Set.of("compareTo"),
        "java.lang.Enum", Set.of("ordinal"));
    private static final Set<String> NUMBER_CLASSES = Set.of("java.lang.Math", "java.lang.Integer", "java.lang.Long");
    private static final Set<String> TYPES = Set.of("java.lang.String", "java.lang.StringBuilder", "java.lang.Integer",
        "java.util.ArrayList", "java.util.List", "java.util.Iterator", "java.lang.Iterable", "java.lang.Comparable");
    private static final Set<TypeKind> WHOLE = Set.of(TypeKind.INT, TypeKind.LONG);
    private static final Set<TypeKind> CONSTANT_NUMBERS = Set.of(TypeKind.INT, TypeKind.LONG, TypeKind.BOOLEAN, TypeKind.CHAR);
    private static final Set<TypeKind> CONSTANT_ROWS = Set.of(TypeKind.INT, TypeKind.LONG, TypeKind.CHAR, TypeKind.BYTE);

    private static int looked = 0;
    private static int wrong = 0;

    public static void main(String[] args) throws IOException {
        String text = Files.readString(Path.of(SOURCE));
        due(text.chars().allMatch(c -> c == '\n' || c >= 32 && c < 127), 4, "other signs than plain ones", "");
        var compiler = ToolProvider.getSystemJavaCompiler();
        try (StandardJavaFileManager files = compiler.getStandardFileManager(null, null, null)) {
            var task = (JavacTask) compiler.getTask(null, files, null, List.of("-proc:none", "--release", "17"), null,
                files.getJavaFileObjects(SOURCE));
            CompilationUnitTree unit = task.parse().iterator().next();
            task.analyze();
            due(unit.getPackageName() == null, 0, "a package line", "");
            due(unit.getTypeDecls().size() == 1, 0, "more than one class beside another", "");
            Look look = new Look(Trees.instance(task), unit);
            look.scan(unit, null);
            look.whole();
        }
        System.out.println(looked + " looks at the source, " + wrong + " against the rules");
        if (wrong != 0) System.exit(1);
    }

    private static void due(boolean holds, int rule, String what, String where) {
        looked++;
        if (!holds) {
            wrong++;
            System.out.println("rule " + rule + ": " + what + " " + where);
        }
    }

    private static final class Look extends TreePathScanner<Void, Void> {
        private final Trees trees;
        private final CompilationUnitTree unit;
        private final Map<String, Set<String>> calls = new TreeMap<>();
        private final List<TypeElement> classes = new ArrayList<>();
        private String method = "";

        Look(Trees trees, CompilationUnitTree unit) {
            this.trees = trees;
            this.unit = unit;
        }

        @Override
        public Void visitClass(ClassTree tree, Void none) {
            TypeElement own = (TypeElement) trees.getElement(getCurrentPath());
            classes.add(own);
            Tree around = getCurrentPath().getParentPath().getLeaf();
            boolean outer = around instanceof CompilationUnitTree;
            due(outer || around instanceof ClassTree, 2, "a local or anonymous class", where(tree));
            due(outer || own.getModifiers().contains(Modifier.STATIC), 2, "a class that is not static", where(tree));
            int fields = 0;
            for (Tree member : tree.getMembers()) {
                due(!(member instanceof BlockTree), 5, "an initialiser block", where(member));
                if (member instanceof VariableTree v && !v.getModifiers().getFlags().contains(Modifier.STATIC)) fields++;
            }
            due(fields <= MOST_FIELDS, 11, fields + " fields in", own.toString());
            return super.visitClass(tree, none);
        }

        @Override
        public Void visitMethod(MethodTree tree, Void none) {
            String before = method;
            Element own = trees.getElement(getCurrentPath());
            method = nameOf(own);
            calls.computeIfAbsent(method, m -> new LinkedHashSet<>());
            due(tree.getParameters().size() <= MOST_PARAMETERS, 11, "more than seven parameters", method);
            long lines = lineOf(trees.getSourcePositions().getEndPosition(unit, tree))
                - lineOf(trees.getSourcePositions().getStartPosition(unit, tree)) + 1;
            due(lines <= MOST_LINES, 11, lines + " lines in", method);
            due(tree.getThrows().isEmpty(), 6, "throws", method);
            if (own instanceof ExecutableElement e) dueType(e.getReturnType(), where(tree));
            due(!Set.of("equals", "hashCode", "toString").contains(own.getSimpleName().toString()), 6, "an own", method);
            super.visitMethod(tree, none);
            method = before;
            return null;
        }

        @Override
        public Void visitVariable(VariableTree tree, Void none) {
            Element own = trees.getElement(getCurrentPath());
            dueType(own.asType(), where(tree));
            if (own.getModifiers().contains(Modifier.STATIC) && own.getKind() == ElementKind.FIELD) {
                due(own.getModifiers().contains(Modifier.FINAL), 5, "a static field that is not final", where(tree));
                due(mayBeStatic(own.asType()) && tree.getInitializer() != null, 5, "static state", where(tree));
            }
            return super.visitVariable(tree, none);
        }

        private boolean mayBeStatic(TypeMirror type) {
            if (type instanceof ArrayType a) return CONSTANT_ROWS.contains(a.getComponentType().getKind());
            return CONSTANT_NUMBERS.contains(type.getKind()) || type.toString().equals("java.lang.String");
        }

        private void dueType(TypeMirror type, String where) {
            TypeMirror inner = type;
            int dimensions = 0;
            while (inner instanceof ArrayType a) {
                inner = a.getComponentType();
                dimensions++;
            }
            due(dimensions < 2 || dimensions == 2 && inner.getKind().isPrimitive(), 3, "an array such as " + type, where);
            if (inner instanceof DeclaredType d) {
                String name = ((TypeElement) d.asElement()).getQualifiedName().toString();
                due(isOwn(name) || TYPES.contains(name), 3, "the type " + name, where);
            }
        }

        @Override
        public Void visitMethodInvocation(MethodInvocationTree tree, Void none) {
            Element called = trees.getElement(new TreePath(getCurrentPath(), tree.getMethodSelect()));
            String owner = ((TypeElement) called.getEnclosingElement()).getQualifiedName().toString();
            String name = called.getSimpleName().toString();
            if (called.getKind() == ElementKind.METHOD) {
                if (!method.isEmpty()) calls.get(method).add(nameOf(called));
                boolean number = NUMBER_CLASSES.contains(owner) && isOfWholeNumbers((ExecutableElement) called)
                    && !name.endsWith("Exact");
                boolean listed = LIBRARY.getOrDefault(owner, Set.of()).contains(name);
                boolean cloned = owner.equals("java.lang.Object") && name.equals("clone");
                due(isOwn(owner) || number || listed || cloned, 4, "a call of " + owner + "." + name, where(tree));
            }
            return super.visitMethodInvocation(tree, none);
        }

        private static boolean isOfWholeNumbers(ExecutableElement called) {
            boolean whole = called.getModifiers().contains(Modifier.STATIC) && WHOLE.contains(called.getReturnType().getKind());
            for (VariableElement parameter : called.getParameters()) whole &= WHOLE.contains(parameter.asType().getKind());
            return whole;
        }

        @Override
        public Void visitNewClass(NewClassTree tree, Void none) {
            due(tree.getClassBody() == null, 2, "a class without a name", where(tree));
            TypeMirror type = trees.getTypeMirror(getCurrentPath());
            dueType(type, where(tree));
            Element made = trees.getElement(getCurrentPath());
            if (!method.isEmpty() && made != null) calls.get(method).add(nameOf(made));
            return super.visitNewClass(tree, none);
        }

        @Override
        public Void visitNewArray(NewArrayTree tree, Void none) {
            dueType(trees.getTypeMirror(getCurrentPath()), where(tree));
            return super.visitNewArray(tree, none);
        }

        @Override
        public Void visitBinary(BinaryTree tree, Void none) {
            boolean compared = tree.getKind() == Tree.Kind.EQUAL_TO || tree.getKind() == Tree.Kind.NOT_EQUAL_TO;
            if (compared) due(!(isText(tree.getLeftOperand()) && isText(tree.getRightOperand())), 6, "== of texts", where(tree));
            if (tree.getKind() == Tree.Kind.PLUS) due(!isText(tree), 10, "texts that are joined by +", where(tree));
            return super.visitBinary(tree, none);
        }

        @Override
        public Void visitCompoundAssignment(CompoundAssignmentTree tree, Void none) {
            due(!isText(tree.getVariable()), 10, "texts that are joined by +=", where(tree));
            return super.visitCompoundAssignment(tree, none);
        }

        @Override
        public Void visitLiteral(LiteralTree tree, Void none) {
            if (tree.getValue() instanceof String s) {
                due(s.chars().allMatch(c -> c >= 1 && c <= 127), 4, "a text of other signs", where(tree));
            }
            return super.visitLiteral(tree, none);
        }

        @Override
        public Void visitThrow(ThrowTree tree, Void none) {
            return never(6, tree);
        }

        @Override
        public Void visitTry(TryTree tree, Void none) {
            return never(6, tree);
        }

        @Override
        public Void visitSynchronized(SynchronizedTree tree, Void none) {
            return never(6, tree);
        }

        @Override
        public Void visitAssert(AssertTree tree, Void none) {
            return never(6, tree);
        }

        @Override
        public Void visitLambdaExpression(LambdaExpressionTree tree, Void none) {
            return never(2, tree);
        }

        @Override
        public Void visitMemberReference(MemberReferenceTree tree, Void none) {
            return never(2, tree);
        }

        private Void never(int rule, Tree tree) {
            due(false, rule, "there is " + tree.getKind(), where(tree));
            return null;
        }

        void whole() {
            due(classes.size() <= MOST_CLASSES, 11, classes.size() + " classes", "");
            for (String start : calls.keySet()) {
                List<String> chain = longest(start, new HashSet<>());
                due(chain.size() <= MOST_DEPTH, 11, "a chain of " + chain.size() + " calls:", chain.toString());
            }
        }

        /** The longest chain of calls from here; the class has no recursion, so one is told as a fault. */
        private List<String> longest(String from, Set<String> open) {
            List<String> best = List.of();
            open.add(from);
            for (String to : calls.getOrDefault(from, Set.of())) {
                if (open.contains(to)) {
                    due(false, 8, "a recursion without a look at its depth:", to);
                    continue;
                }
                List<String> chain = longest(to, open);
                if (chain.size() > best.size()) best = chain;
            }
            open.remove(from);
            List<String> all = new ArrayList<>(List.of(from));
            all.addAll(best);
            return all;
        }

        private boolean isText(ExpressionTree tree) {
            TypeMirror type = trees.getTypeMirror(new TreePath(getCurrentPath(), tree));
            if (tree instanceof BinaryTree && getCurrentPath().getLeaf() == tree) type = trees.getTypeMirror(getCurrentPath());
            return type != null && (type.toString().equals("java.lang.String") || type.toString().equals("java.lang.Integer"));
        }

        private static boolean isOwn(String name) {
            return name.equals("DeckHands") || name.startsWith("DeckHands.");
        }

        private static String nameOf(Element called) {
            return called.getEnclosingElement() + "." + called;
        }

        private String where(Tree tree) {
            return "at line " + lineOf(trees.getSourcePositions().getStartPosition(unit, tree));
        }

        private long lineOf(long position) {
            return unit.getLineMap().getLineNumber(Math.max(0, position));
        }
    }
}
