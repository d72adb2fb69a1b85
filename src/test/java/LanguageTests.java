import com.sun.source.tree.ArrayAccessTree;
import com.sun.source.tree.AssertTree;
import com.sun.source.tree.BinaryTree;
import com.sun.source.tree.BlockTree;
import com.sun.source.tree.ClassTree;
import com.sun.source.tree.CompilationUnitTree;
import com.sun.source.tree.CompoundAssignmentTree;
import com.sun.source.tree.ForLoopTree;
import com.sun.source.tree.InstanceOfTree;
import com.sun.source.tree.LambdaExpressionTree;
import com.sun.source.tree.LiteralTree;
import com.sun.source.tree.MemberReferenceTree;
import com.sun.source.tree.MethodInvocationTree;
import com.sun.source.tree.MethodTree;
import com.sun.source.tree.NewArrayTree;
import com.sun.source.tree.NewClassTree;
import com.sun.source.tree.SwitchExpressionTree;
import com.sun.source.tree.SynchronizedTree;
import com.sun.source.tree.ThrowTree;
import com.sun.source.tree.Tree;
import com.sun.source.tree.TryTree;
import com.sun.source.tree.TypeCastTree;
import com.sun.source.tree.VariableTree;
import com.sun.source.tree.WhileLoopTree;
import com.sun.source.util.JavacTask;
import com.sun.source.util.TreePath;
import com.sun.source.util.TreePathScanner;
import com.sun.source.util.Trees;
import java.io.IOException;
import java.nio.charset.StandardCharsets;
import java.nio.file.Files;
import java.nio.file.Path;
import java.util.ArrayList;
import java.util.List;
import java.util.Map;
import java.util.Set;
import java.util.TreeMap;
import java.util.TreeSet;
import java.util.regex.Pattern;
import javax.lang.model.element.Element;
import javax.lang.model.element.ExecutableElement;
import javax.lang.model.element.Modifier;
import javax.lang.model.type.TypeKind;
import javax.lang.model.type.TypeMirror;
import javax.tools.JavaCompiler;
import javax.tools.StandardJavaFileManager;
import javax.tools.ToolProvider;

/**
 * The source keeps to ../shared/LANGUAGE.md, as far as its words and its tree tell. The lists below
 * hold what the program uses, which is less than the rules leave: who needs more looks the rule up
 * and puts it here.
 */
public final class LanguageTests extends Checks {

    private static final Path SOURCE = Path.of("src/main/java/PairNames.java");

    private static final String[] LEFT_OUT = {
        "\\bimport\\b", "\\bpackage\\b", "->", "::", "\\bcatch\\b", "\\bfinally\\b", "\\btry\\b", "\\bassert\\b",
        "\\bsynchronized\\b", "\\binstanceof\\b", "\\bDouble\\.", "\\bFloat\\.", "\\bSystem\\.", "\\bObject\\b",
        "\\w+Exact\\b", "\\bequals\\b", "\\bhashCode\\b", "\\btoString\\b", "\\bMAX_VALUE\\b", "\\bMIN_VALUE\\b",
        "\\bgetMessage\\b", "\\bObjects\\b", "\\bThread\\b", "\\bprotected\\b", "\\bstatic\\s*\\{", "\\bwhile\\s*\\(true"};

    private static final Set<String> LIBRARY = Set.of("java.lang.Math.max(int,int)", "java.lang.Math.min(int,int)");
    private static final Set<String> THROWN = Set.of(ISE, IAE, IOOBE);
    private static final Set<String> TYPES = Set.of("int", "long", "boolean", "double", "int[]");
    private static final Set<Tree.Kind> ON_DOUBLES = Set.of(Tree.Kind.PLUS, Tree.Kind.MINUS, Tree.Kind.MULTIPLY,
        Tree.Kind.DIVIDE, Tree.Kind.LESS_THAN, Tree.Kind.LESS_THAN_EQUAL, Tree.Kind.GREATER_THAN,
        Tree.Kind.GREATER_THAN_EQUAL, Tree.Kind.EQUAL_TO, Tree.Kind.NOT_EQUAL_TO);

    /** The only methods that may touch an array's elements: each tests the index. */
    private static final Set<String> GUARDS = Set.of("Cells.at", "Cells.put", "Cells.fill", "Cells.copyFrom", "Row.at",
        "Row.push", "Row.put", "History.<init>", "History.save", "History.restore");

    private static final int DEPTH = 8;
    private static final int LINES = 60;
    private static final int PARAMETERS = 7;
    private static final int CLASSES = 12;
    private static final int FIELDS = 20;

    public static void main(String[] args) throws IOException {
        words();
        tree();
        finish();
    }

    private static void words() throws IOException {
        tested = "the source's words";
        String text = Files.readString(SOURCE, StandardCharsets.ISO_8859_1);
        String code = text.replaceAll("(?s)/\\*.*?\\*/", " ").replaceAll("//[^\n]*", " ");
        for (String left : LEFT_OUT) {
            due("'" + left + "' in the source", Pattern.compile(left).matcher(code).find(), false);
        }
        due("all characters are ASCII", text.chars().allMatch(c -> c < 128), true);
    }

    private static void tree() throws IOException {
        JavaCompiler compiler = ToolProvider.getSystemJavaCompiler();
        try (StandardJavaFileManager files = compiler.getStandardFileManager(null, null, StandardCharsets.UTF_8)) {
            List<String> options = List.of("-proc:none");
            JavacTask task = (JavacTask) compiler.getTask(null, files, null, options, null,
                files.getJavaFileObjects(SOURCE.toFile()));
            CompilationUnitTree unit = task.parse().iterator().next();
            task.analyze();
            tested = "rule 1";
            due("imports and a package", unit.getImports().size() + (unit.getPackage() == null ? 0 : 1), 0);
            due("classes of the file's first level", unit.getTypeDecls().size(), 1);
            Scan scan = new Scan(Trees.instance(task), unit);
            scan.scan(unit, null);
            tested = "rule 11";
            due("classes, at most " + CLASSES, scan.classes <= CLASSES, true);
            due("no two methods of a class have one name", scan.twice, List.of());
            scan.callsAreShallow();
        }
    }

    /** Goes through the whole tree; a rule's number stands before what is wrong. */
    private static final class Scan extends TreePathScanner<Void, Void> {
        private final Trees trees;
        private final CompilationUnitTree unit;
        private final Map<String, Set<String>> calls = new TreeMap<>();
        private final List<String> twice = new ArrayList<>();
        private final List<String> open = new ArrayList<>();
        private int classes;
        private String inside = "";
        private String method = "<init>";
        private ExecutableElement called;

        Scan(Trees trees, CompilationUnitTree unit) {
            this.trees = trees;
            this.unit = unit;
        }

        private void rule(int number, String what, Object got, Object want) {
            tested = "rule " + number;
            due(what + " (" + inside + "." + method + ")", got, want);
        }

        private void never(int number, String what) {
            rule(number, what, "there", "not there");
        }

        private Element element(Tree tree) {
            return trees.getElement(TreePath.getPath(unit, tree));
        }

        private TypeMirror type(Tree tree) {
            return trees.getTypeMirror(TreePath.getPath(unit, tree));
        }

        private boolean isOwn(Element element) {
            return element.getEnclosingElement() != null
                && element.getEnclosingElement().toString().startsWith("PairNames");
        }

        private static String owner(Element element) {
            return element.getEnclosingElement().getSimpleName().toString();
        }

        private String here() {
            return inside + "." + method;
        }

        private boolean inConstructor() {
            return method.equals("<init>");
        }

        // ---- classes, methods, fields

        @Override
        public Void visitClass(ClassTree node, Void none) {
            classes++;
            String outer = inside;
            inside = node.getSimpleName().toString();
            Set<Modifier> flags = node.getModifiers().getFlags();
            Set<Modifier> due = outer.isEmpty() ? Set.of(Modifier.PUBLIC, Modifier.FINAL)
                : Set.of(Modifier.PRIVATE, Modifier.STATIC, Modifier.FINAL);
            rule(2, "modifiers of a class", flags, due);
            int fields = 0;
            for (Tree member : node.getMembers()) {
                if (member instanceof BlockTree) {
                    never(5, "a block of its own");
                }
                boolean isField = member instanceof VariableTree;
                fields += isField && !element(member).getModifiers().contains(Modifier.STATIC) ? 1 : 0;
            }
            rule(11, "fields, at most " + FIELDS, fields <= FIELDS, true);
            super.visitClass(node, none);
            inside = outer;
            return none;
        }

        @Override
        public Void visitMethod(MethodTree node, Void none) {
            method = node.getName().toString();
            called = (ExecutableElement) element(node);
            if (calls.putIfAbsent(here(), new TreeSet<>()) != null && !inConstructor()) {
                twice.add(here());
            }
            rule(11, "parameters, at most " + PARAMETERS, node.getParameters().size() <= PARAMETERS, true);
            long start = trees.getSourcePositions().getStartPosition(unit, node);
            long end = trees.getSourcePositions().getEndPosition(unit, node);
            // A constructor that the compiler adds has no end in the source.
            long lines = end < 0 ? 0 : unit.getLineMap().getLineNumber(end) - unit.getLineMap().getLineNumber(start) + 1;
            rule(11, "lines, at most " + LINES, lines <= LINES, true);
            super.visitMethod(node, none);
            method = "<init>";
            called = null;
            return none;
        }

        @Override
        public Void visitVariable(VariableTree node, Void none) {
            Element variable = element(node);
            String type = variable.asType().toString();
            boolean isStatic = variable.getModifiers().contains(Modifier.STATIC);
            rule(3, "the type " + type, TYPES.contains(type) || type.startsWith("PairNames."), true);
            if (isStatic) {
                rule(5, "static " + node.getName() + " is final", variable.getModifiers().contains(Modifier.FINAL), true);
                rule(5, "static " + node.getName() + " is an int", type, "int");
            }
            return super.visitVariable(node, none);
        }

        // ---- what is called and made

        @Override
        public Void visitMethodInvocation(MethodInvocationTree node, Void none) {
            Element target = element(node.getMethodSelect());
            if (isOwn(target)) {
                call(owner(target) + "." + target.getSimpleName());
            } else if (!target.toString().equals("Object()")) {
                String name = target.getEnclosingElement() + "." + target;
                rule(4, name + " is one of the library's", LIBRARY.contains(name), true);
                call(name);
            }
            return super.visitMethodInvocation(node, none);
        }

        @Override
        public Void visitNewClass(NewClassTree node, Void none) {
            Element target = element(node);
            rule(2, "a class without a name", node.getClassBody() == null, true);
            if (isOwn(target)) {
                rule(12, "an object is made in a constructor alone", inConstructor(), true);
                call(owner(target) + ".<init>");
            } else {
                boolean isThrown = getCurrentPath().getParentPath().getLeaf() instanceof ThrowTree;
                rule(6, node.getIdentifier() + " is made to be thrown", isThrown, true);
            }
            return super.visitNewClass(node, none);
        }

        @Override
        public Void visitNewArray(NewArrayTree node, Void none) {
            rule(12, "an array is made in a constructor alone", inConstructor(), true);
            return super.visitNewArray(node, none);
        }

        @Override
        public Void visitThrow(ThrowTree node, Void none) {
            boolean isNew = node.getExpression() instanceof NewClassTree;
            rule(6, "what is thrown is new", isNew, true);
            if (isNew) {
                NewClassTree made = (NewClassTree) node.getExpression();
                boolean isWritten = made.getArguments().stream().allMatch(text -> text instanceof LiteralTree);
                rule(6, made + " is allowed", THROWN.contains(made.getIdentifier().toString()) && isWritten, true);
                boolean isTold = called != null && called.getThrownTypes().stream()
                    .anyMatch(type -> type.toString().endsWith("." + made.getIdentifier()));
                rule(6, made + " is told in the throws clause", isTold, true);
            }
            rule(6, "thrown by a call of the face", called != null && called.getModifiers().contains(Modifier.PUBLIC), true);
            return super.visitThrow(node, none);
        }

        private void call(String target) {
            calls.computeIfAbsent(here(), key -> new TreeSet<>()).add(target);
        }

        /** Each chain of calls, with the library's at its end, is short, and none comes back to itself. */
        private void callsAreShallow() {
            int deepest = 0;
            for (String start : calls.keySet()) {
                deepest = Math.max(deepest, depth(start));
            }
            due("the deepest chain of calls, at most " + DEPTH, deepest <= DEPTH, true);
            due("methods that were looked at, many", calls.size() > 80, true);
        }

        private int depth(String start) {
            if (open.contains(start)) {
                due("a call that comes back", open, List.of());
                return 0;
            }
            open.add(start);
            int deepest = 0;
            for (String next : calls.getOrDefault(start, Set.of())) {
                deepest = Math.max(deepest, depth(next));
            }
            open.remove(start);
            return deepest + 1;
        }

        // ---- what stands in methods

        @Override
        public Void visitBinary(BinaryTree node, Void none) {
            operands(node.getKind(), node.getLeftOperand(), node.getRightOperand());
            return super.visitBinary(node, none);
        }

        @Override
        public Void visitCompoundAssignment(CompoundAssignmentTree node, Void none) {
            rule(7, "an assignment that computes with doubles or divides", node.getKind() == Tree.Kind.PLUS_ASSIGNMENT
                || node.getKind() == Tree.Kind.MINUS_ASSIGNMENT, true);
            return super.visitCompoundAssignment(node, none);
        }

        private void operands(Tree.Kind kind, Tree left, Tree right) {
            if (isDouble(left) || isDouble(right)) {
                rule(3, kind + " on doubles", ON_DOUBLES.contains(kind), true);
            } else {
                boolean divides = kind == Tree.Kind.DIVIDE || kind == Tree.Kind.REMAINDER;
                rule(7, "a division of integers", divides, false);
            }
            rule(10, "joining of texts", isText(left) || isText(right), false);
        }

        private boolean isDouble(Tree tree) {
            return type(tree).getKind() == TypeKind.DOUBLE;
        }

        private boolean isText(Tree tree) {
            return type(tree).toString().equals("java.lang.String");
        }

        @Override
        public Void visitArrayAccess(ArrayAccessTree node, Void none) {
            rule(7, here() + " tests indexes", GUARDS.contains(here()), true);
            return super.visitArrayAccess(node, none);
        }

        @Override
        public Void visitTypeCast(TypeCastTree node, Void none) {
            rule(7, "a cast to a number", type(node.getType()).getKind().isPrimitive(), true);
            return super.visitTypeCast(node, none);
        }

        @Override
        public Void visitWhileLoop(WhileLoopTree node, Void none) {
            rule(9, "while (" + node.getCondition() + ") compares", node.getCondition().toString().contains("<"), true);
            return super.visitWhileLoop(node, none);
        }

        @Override
        public Void visitForLoop(ForLoopTree node, Void none) {
            rule(9, "for has a condition", node.getCondition() != null, true);
            rule(9, "for counts", node.getUpdate().size(), 1);
            return super.visitForLoop(node, none);
        }

        @Override
        public Void visitLambdaExpression(LambdaExpressionTree node, Void none) {
            never(2, "a lambda");
            return none;
        }

        @Override
        public Void visitMemberReference(MemberReferenceTree node, Void none) {
            never(2, "a method reference");
            return none;
        }

        @Override
        public Void visitTry(TryTree node, Void none) {
            never(6, "try");
            return none;
        }

        @Override
        public Void visitSynchronized(SynchronizedTree node, Void none) {
            never(6, "synchronized");
            return none;
        }

        @Override
        public Void visitAssert(AssertTree node, Void none) {
            never(6, "assert");
            return none;
        }

        @Override
        public Void visitInstanceOf(InstanceOfTree node, Void none) {
            never(6, "instanceof");
            return none;
        }

        @Override
        public Void visitSwitchExpression(SwitchExpressionTree node, Void none) {
            never(10, "a switch with a value");
            return none;
        }
    }
}
