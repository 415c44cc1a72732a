import com.sun.source.tree.*;
import com.sun.source.util.JavacTask;
import com.sun.source.util.TreePath;
import com.sun.source.util.TreePathScanner;
import com.sun.source.util.Trees;
import java.nio.file.Path;
import java.util.ArrayDeque;
import java.util.ArrayList;
import java.util.Deque;
import java.util.HashMap;
import java.util.LinkedHashMap;
import java.util.LinkedHashSet;
import java.util.List;
import java.util.Map;
import java.util.Set;
import java.util.TreeSet;
import javax.lang.model.element.Element;
import javax.lang.model.element.ElementKind;
import javax.lang.model.element.Modifier;
import javax.lang.model.type.TypeMirror;
import javax.tools.JavaCompiler;
import javax.tools.StandardJavaFileManager;
import javax.tools.ToolProvider;

/**
 * ../shared/LANGUAGE.md, as far as the compiler's own tree of the source shows it. Where the program needs
 * less than the rules leave (of the library, of types, of what calls may make), less is what is asked here.
 */
public final class RulesTest {
    private static final String SOURCE = "src/main/java/ToolSaints.java";
    private static final Set<String> LIBRARY = Set.of("java.lang.Math.min", "java.lang.Math.max", "java.lang.Math.floorMod",
            "java.lang.Integer.bitCount", "java.util.Arrays.fill", "java.lang.System.arraycopy", "java.lang.String.length",
            "java.lang.String.charAt", "java.lang.Object.<init>");
    private static final Set<String> TYPES = Set.of("int", "long", "char", "boolean", "int[]", "java.lang.String", "void");
    /** Rule 11. */
    private static final int DEEPEST = 8;
    private static final int LONGEST = 60;
    /** Rule 8: a level goes through the whole ring of methods once, and FAULT 5 ends the 8th. */
    private static final int LEVELS = 8;
    private static final int OPEN_AT_ONCE = 300;

    private static int wrong;

    private RulesTest() {
    }

    /** Of another source, if one is named: so the test itself can be tried. */
    public static void main(String[] args) throws Exception {
        String source = args.length > 0 ? args[0] : SOURCE;
        JavaCompiler compiler = ToolProvider.getSystemJavaCompiler();
        try (StandardJavaFileManager files = compiler.getStandardFileManager(null, null, null)) {
            JavacTask task = (JavacTask) compiler.getTask(null, files, null, List.of("-proc:none"), null,
                    files.getJavaFileObjects(Path.of(source)));
            Iterable<? extends CompilationUnitTree> units = task.parse();
            task.analyze();
            Reader reader = new Reader(Trees.instance(task));
            reader.scan(units, null);
            new Calls(reader.calls).check();
        }
        System.out.println(wrong == 0 ? "the rules are kept" : wrong + " rules are broken");
        if (wrong != 0) {
            System.exit(1);
        }
    }

    private static void check(boolean fine, String what) {
        if (!fine) {
            wrong++;
            System.out.println("broken: " + what);
        }
    }

    /** Goes through the source once, looks at each node, and notes who calls whom. */
    private static final class Reader extends TreePathScanner<Void, Void> {
        final Map<String, Set<String>> calls = new LinkedHashMap<>();
        private final Trees trees;
        private MethodTree method;

        Reader(Trees trees) {
            this.trees = trees;
        }

        private String at(Tree node) {
            CompilationUnitTree unit = getCurrentPath().getCompilationUnit();
            long from = trees.getSourcePositions().getStartPosition(unit, node);
            return "line " + unit.getLineMap().getLineNumber(from) + ": " + node.toString().lines().findFirst().orElse("");
        }

        private Element element(Tree node) {
            return trees.getElement(new TreePath(getCurrentPath(), node));
        }

        private static boolean isOwn(Element e) {
            Element up = e;
            while (up != null && up.getKind() != ElementKind.PACKAGE) {
                if (up.getSimpleName().contentEquals("ToolSaints")) {
                    return true;
                }
                up = up.getEnclosingElement();
            }
            return false;
        }

        private static String nameOf(Element e) {
            return e.getEnclosingElement() + "." + e.getSimpleName();
        }

        /** What stands in a field's initialiser is done by the constructor. */
        private String caller() {
            TreePath path = getCurrentPath();
            while (!(path.getLeaf() instanceof ClassTree) && !(path.getLeaf() instanceof MethodTree)) {
                path = path.getParentPath();
            }
            Element e = trees.getElement(path);
            return path.getLeaf() instanceof ClassTree ? e + ".<init>" : nameOf(e);
        }

        private void called(Element e, Tree node) {
            if (e == null || !isOwn(e)) {
                check(e != null && LIBRARY.contains(nameOf(e)), "rule 4, " + at(node));
                return;
            }
            calls.computeIfAbsent(caller(), k -> new LinkedHashSet<>()).add(nameOf(e));
            calls.computeIfAbsent(nameOf(e), k -> new LinkedHashSet<>());
        }

        @Override
        public Void visitClass(ClassTree node, Void p) {
            Tree above = getCurrentPath().getParentPath().getLeaf();
            boolean top = above instanceof CompilationUnitTree;
            Set<Modifier> modifiers = node.getModifiers().getFlags();
            check(top || above instanceof ClassTree && modifiers.contains(Modifier.STATIC), "rule 2, " + at(node));
            check(node.getKind() == Tree.Kind.CLASS, "a kind of class this test does not know, " + at(node));
            return super.visitClass(node, p);
        }

        @Override
        public Void visitMethod(MethodTree node, Void p) {
            method = node;
            check(node.getParameters().size() <= 7, "rule 11, " + at(node));
            CompilationUnitTree unit = getCurrentPath().getCompilationUnit();
            long from = unit.getLineMap().getLineNumber(trees.getSourcePositions().getStartPosition(unit, node));
            long to = unit.getLineMap().getLineNumber(trees.getSourcePositions().getEndPosition(unit, node));
            check(to - from < LONGEST, "rule 11, " + at(node));
            if (node.getReturnType() != null) {
                type(trees.getTypeMirror(new TreePath(getCurrentPath(), node.getReturnType())), node);
            }
            super.visitMethod(node, p);
            method = null;
            return null;
        }

        private void type(TypeMirror type, Tree node) {
            String name = type.toString();
            boolean own = name.startsWith("ToolSaints.") || name.equals("ToolSaints");
            check(own || TYPES.contains(name), "rule 3, " + name + ", " + at(node));
        }

        @Override
        public Void visitVariable(VariableTree node, Void p) {
            type(trees.getTypeMirror(getCurrentPath()), node);
            Set<Modifier> modifiers = node.getModifiers().getFlags();
            if (method == null && modifiers.contains(Modifier.STATIC)) {
                boolean fixed = modifiers.contains(Modifier.FINAL) && !(node.getType() instanceof ArrayTypeTree);
                check(fixed, "rule 5, " + at(node));
            }
            return super.visitVariable(node, p);
        }

        @Override
        public Void visitMethodInvocation(MethodInvocationTree node, Void p) {
            Element e = element(node.getMethodSelect());
            called(e, node);
            if (e != null && e.getSimpleName().contentEquals("floorMod")) {
                divisor(node.getArguments().get(1), node);
            }
            return super.visitMethodInvocation(node, p);
        }

        /** A call that made an object would count 512 times; only constructors and initialisers make any. */
        @Override
        public Void visitNewClass(NewClassTree node, Void p) {
            called(trees.getElement(getCurrentPath()), node);
            check(caller().endsWith("<init>") && node.getClassBody() == null, "rule 12, " + at(node));
            return super.visitNewClass(node, p);
        }

        @Override
        public Void visitNewArray(NewArrayTree node, Void p) {
            check(caller().endsWith("<init>") && node.getDimensions().size() == 1, "rules 3, 12, " + at(node));
            return super.visitNewArray(node, p);
        }

        @Override
        public Void visitMemberSelect(MemberSelectTree node, Void p) {
            Element e = trees.getElement(getCurrentPath());
            boolean field = e != null && e.getKind() == ElementKind.FIELD;
            check(!field || isOwn(e) || node.getIdentifier().contentEquals("length"), "rule 4, " + at(node));
            return super.visitMemberSelect(node, p);
        }

        @Override
        public Void visitBinary(BinaryTree node, Void p) {
            TypeMirror type = trees.getTypeMirror(getCurrentPath());
            check(!type.toString().equals("java.lang.String"), "rule 10, texts joined by +, " + at(node));
            if (node.getKind() == Tree.Kind.DIVIDE || node.getKind() == Tree.Kind.REMAINDER) {
                divisor(node.getRightOperand(), node);
            }
            return super.visitBinary(node, p);
        }

        @Override
        public Void visitCompoundAssignment(CompoundAssignmentTree node, Void p) {
            if (node.getKind() == Tree.Kind.DIVIDE_ASSIGNMENT || node.getKind() == Tree.Kind.REMAINDER_ASSIGNMENT) {
                divisor(node.getExpression(), node);
            }
            return super.visitCompoundAssignment(node, p);
        }

        /** A number, a constant, or what the method compares with 0. */
        private void divisor(ExpressionTree by, Tree node) {
            Element e = element(by);
            Object constant = e instanceof javax.lang.model.element.VariableElement v ? v.getConstantValue() : null;
            String text = by.toString();
            boolean plain = by instanceof LiteralTree && !text.equals("0") || constant instanceof Integer n && n != 0;
            String body = method == null ? "" : method.toString();
            boolean compared = body.contains(text + " > 0") || body.contains(text + " != 0") || body.contains(text + " <= 0");
            check(plain || compared, "rule 7, divides by " + text + ", " + at(node));
        }

        @Override
        public Void visitTypeCast(TypeCastTree node, Void p) {
            check(node.getType() instanceof PrimitiveTypeTree, "rule 6, " + at(node));
            return super.visitTypeCast(node, p);
        }

        @Override
        public Void visitForLoop(ForLoopTree node, Void p) {
            check(node.getCondition() != null && !node.getUpdate().isEmpty(), "rule 9, " + at(node));
            return super.visitForLoop(node, p);
        }

        @Override
        public Void visitWhileLoop(WhileLoopTree node, Void p) {
            check(!(node.getCondition() instanceof ParenthesizedTree c && c.getExpression() instanceof LiteralTree),
                    "rule 9, " + at(node));
            return super.visitWhileLoop(node, p);
        }

        @Override
        public Void visitThrow(ThrowTree node, Void p) {
            check(false, "rule 6, " + at(node));
            return null;
        }

        @Override
        public Void visitTry(TryTree node, Void p) {
            check(false, "rule 6, " + at(node));
            return null;
        }

        @Override
        public Void visitAssert(AssertTree node, Void p) {
            check(false, "rule 6, " + at(node));
            return null;
        }

        @Override
        public Void visitSynchronized(SynchronizedTree node, Void p) {
            check(false, "rule 6, " + at(node));
            return null;
        }

        @Override
        public Void visitLambdaExpression(LambdaExpressionTree node, Void p) {
            check(false, "rule 2, " + at(node));
            return null;
        }

        @Override
        public Void visitMemberReference(MemberReferenceTree node, Void p) {
            check(false, "rule 2, " + at(node));
            return null;
        }

        @Override
        public Void visitBlock(BlockTree node, Void p) {
            boolean initialiser = getCurrentPath().getParentPath().getLeaf() instanceof ClassTree;
            check(!initialiser, "rule 5, " + at(node));
            return super.visitBlock(node, p);
        }
    }

    /** Who calls whom: rings of methods that call one another, and how deep the rest goes. */
    private static final class Calls {
        private final Map<String, Set<String>> calls;
        private final Map<String, Set<String>> reach = new HashMap<>();
        private final Map<String, List<String>> deepest = new HashMap<>();

        Calls(Map<String, Set<String>> calls) {
            this.calls = calls;
        }

        private Set<String> reachOf(String method) {
            Set<String> seen = new TreeSet<>();
            Deque<String> open = new ArrayDeque<>(calls.get(method));
            while (!open.isEmpty()) {
                String next = open.pop();
                if (seen.add(next)) {
                    open.addAll(calls.get(next));
                }
            }
            return seen;
        }

        private boolean oneRing(String a, String b) {
            return a.equals(b) || reach.get(a).contains(b) && reach.get(b).contains(a);
        }

        /** The deepest row of calls from here on, a ring counting once. */
        private List<String> deepestOf(String method) {
            if (deepest.containsKey(method)) {
                return deepest.get(method);
            }
            List<String> best = List.of();
            for (String member : calls.keySet()) {
                for (String next : oneRing(method, member) ? calls.get(member) : Set.<String>of()) {
                    if (!oneRing(method, next) && deepestOf(next).size() > best.size()) {
                        best = deepestOf(next);
                    }
                }
            }
            List<String> row = new ArrayList<>(List.of(method));
            row.addAll(best);
            deepest.put(method, row);
            return row;
        }

        void check() {
            for (String method : calls.keySet()) {
                reach.put(method, reachOf(method));
            }
            for (String method : calls.keySet()) {
                List<String> row = deepestOf(method);
                RulesTest.check(row.size() <= DEEPEST, "rule 11, " + row.size() + " deep: " + row);
                if (reach.get(method).contains(method)) {
                    long ring = calls.keySet().stream().filter(m -> oneRing(method, m)).count();
                    RulesTest.check(method.startsWith("ToolSaints.RuleReader."), "rule 8, a ring this test does not know: " + method);
                    RulesTest.check(ring * LEVELS + DEEPEST < OPEN_AT_ONCE, "rule 8, " + ring + " methods in a ring");
                }
            }
        }
    }
}
