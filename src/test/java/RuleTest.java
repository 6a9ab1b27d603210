import com.sun.source.tree.AssertTree;
import com.sun.source.tree.BinaryTree;
import com.sun.source.tree.BlockTree;
import com.sun.source.tree.ClassTree;
import com.sun.source.tree.CompilationUnitTree;
import com.sun.source.tree.CompoundAssignmentTree;
import com.sun.source.tree.DoWhileLoopTree;
import com.sun.source.tree.EnhancedForLoopTree;
import com.sun.source.tree.ExpressionTree;
import com.sun.source.tree.ForLoopTree;
import com.sun.source.tree.ImportTree;
import com.sun.source.tree.LambdaExpressionTree;
import com.sun.source.tree.MemberReferenceTree;
import com.sun.source.tree.MethodInvocationTree;
import com.sun.source.tree.MethodTree;
import com.sun.source.tree.NewClassTree;
import com.sun.source.tree.SynchronizedTree;
import com.sun.source.tree.ThrowTree;
import com.sun.source.tree.Tree;
import com.sun.source.tree.TryTree;
import com.sun.source.tree.TypeCastTree;
import com.sun.source.tree.VariableTree;
import com.sun.source.tree.WhileLoopTree;
import com.sun.source.util.JavacTask;
import com.sun.source.util.TreePath;
import com.sun.source.util.TreePathScanner;
import com.sun.source.util.Trees;
import java.io.File;
import java.io.IOException;
import java.nio.charset.StandardCharsets;
import java.nio.file.Files;
import java.util.LinkedHashMap;
import java.util.List;
import java.util.Map;
import java.util.Set;
import java.util.TreeSet;
import javax.lang.model.element.Element;
import javax.lang.model.element.ExecutableElement;
import javax.lang.model.element.Modifier;
import javax.lang.model.element.TypeElement;
import javax.tools.JavaCompiler;
import javax.tools.StandardJavaFileManager;
import javax.tools.ToolProvider;

/**
 * The rules of LANGUAGE.md that can be seen in the file itself. javac tells which method each call means, so the
 * library that is used and the depth of calls are looked at as they are, not by names.
 */
public final class RuleTest {
    private static final File FILE = new File("src/main/java/HeapJudge.java");
    private static final Set<String> IMPORTS = Set.of("java.util.Arrays", "java.util.ArrayList", "java.util.List",
            "java.util.Iterator", "java.util.NoSuchElementException");
    private static final Set<String> THROWN = Set.of("IllegalStateException", "IllegalArgumentException",
            "IndexOutOfBoundsException", "ArithmeticException", "UnsupportedOperationException",
            "NoSuchElementException", "RuntimeException");
    private static final Set<String> LIBRARY = Set.of("String.length", "String.charAt", "String.isEmpty",
            "String.equals", "String.indexOf", "String.substring", "String.toCharArray", "StringBuilder.append",
            "StringBuilder.charAt", "StringBuilder.setCharAt", "StringBuilder.setLength",
            "StringBuilder.deleteCharAt", "StringBuilder.reverse", "StringBuilder.length", "StringBuilder.toString",
            "System.arraycopy", "Arrays.copyOf", "Arrays.copyOfRange", "Arrays.fill");
    private static final Set<String> NUMBERS = Set.of("Integer", "Long", "Math");
    private static final int MOST_LINES = 60;
    private static final int MOST_PARAMETERS = 7;
    private static final int MOST_DEEP = 8;
    private static final int MOST_CLASSES = 12;
    private static final int MOST_FIELDS = 20;

    private static int wrong = 0;

    public static void main(String[] args) throws IOException {
        JavaCompiler compiler = ToolProvider.getSystemJavaCompiler();
        StandardJavaFileManager files = compiler.getStandardFileManager(null, null, null);
        JavacTask task = (JavacTask) compiler.getTask(null, files, null, List.of("-proc:none"), null,
                files.getJavaFileObjects(FILE));
        CompilationUnitTree unit = task.parse().iterator().next();
        task.analyze();
        signs();
        must(1, unit.getPackageName() == null, "no package line");
        must(1, unit.getTypeDecls().size() == 1, "one class outside");
        Looker looker = new Looker(unit, Trees.instance(task));
        looker.scan(unit, null);
        must(11, looker.classes <= MOST_CLASSES, "classes: " + looker.classes);
        Ways ways = new Ways(looker.calls);
        for (String method : looker.calls.keySet()) {
            int deep = ways.deepest(method, new TreeSet<>());
            must(8, deep >= 0, method + " comes back to itself; a guard on the depth is needed then");
            must(11, deep <= MOST_DEEP, method + " goes " + deep + " deep");
        }
        if (wrong != 0) {
            System.exit(1);
        }
        System.out.println(looker.calls.size() + " methods of " + looker.classes + " classes keep to the rules");
    }

    static void must(int rule, boolean is, String what) {
        if (!is) {
            wrong++;
            System.out.println("rule " + rule + ": " + what);
        }
    }

    static void signs() throws IOException {
        String source = Files.readString(FILE.toPath(), StandardCharsets.UTF_8);
        for (int i = 0; i < source.length(); i++) {
            char sign = source.charAt(i);
            must(4, sign == '\n' || sign >= ' ' && sign < 127, "sign " + (int) sign + " at " + i);
        }
    }

    /** How deep calls go from a method on; -1: it comes back to itself. */
    static final class Ways {
        private final Map<String, Set<String>> calls;
        private final Map<String, Integer> known = new LinkedHashMap<>();

        Ways(Map<String, Set<String>> calls) {
            this.calls = calls;
        }

        int deepest(String method, Set<String> open) {
            if (known.containsKey(method)) {
                return known.get(method);
            }
            if (!open.add(method)) {
                return -1;
            }
            int deep = 0;
            for (String called : calls.getOrDefault(method, Set.of())) {
                int below = deepest(called, open);
                if (below < 0) {
                    return -1;
                }
                deep = Math.max(deep, below);
            }
            open.remove(method);
            known.put(method, deep + 1);
            return deep + 1;
        }
    }

    static final class Looker extends TreePathScanner<Void, Void> {
        private final CompilationUnitTree unit;
        private final Trees trees;
        /** For each method of the file those of the file that it calls. */
        private final Map<String, Set<String>> calls = new LinkedHashMap<>();
        private int classes = 0;

        Looker(CompilationUnitTree unit, Trees trees) {
            this.unit = unit;
            this.trees = trees;
        }

        private long line(long place) {
            return unit.getLineMap().getLineNumber(place);
        }

        private String where(Tree tree) {
            return "line " + line(trees.getSourcePositions().getStartPosition(unit, tree)) + ": ";
        }

        private void must(int rule, boolean is, Tree tree, String what) {
            RuleTest.must(rule, is, where(tree) + what);
        }

        private static String name(Element method) {
            return method.getEnclosingElement().getSimpleName() + "." + method;
        }

        private boolean isOwn(Element element) {
            Element outer = element;
            while (outer.getEnclosingElement() instanceof TypeElement) {
                outer = outer.getEnclosingElement();
            }
            return outer.getSimpleName().contentEquals("HeapJudge");
        }

        /** The method that this stands in; null where a field is set at first. */
        private MethodTree around() {
            for (TreePath path = getCurrentPath(); path != null; path = path.getParentPath()) {
                if (path.getLeaf() instanceof MethodTree) {
                    return (MethodTree) path.getLeaf();
                }
            }
            return null;
        }

        private boolean isText(ExpressionTree tree) {
            return "java.lang.String".equals("" + trees.getTypeMirror(new TreePath(getCurrentPath(), tree)));
        }

        @Override
        public Void visitImport(ImportTree tree, Void none) {
            must(4, !tree.isStatic() && IMPORTS.contains("" + tree.getQualifiedIdentifier()), tree, "" + tree);
            return super.visitImport(tree, none);
        }

        @Override
        public Void visitClass(ClassTree tree, Void none) {
            classes++;
            int fields = 0;
            for (Tree member : tree.getMembers()) {
                if (member instanceof VariableTree) {
                    Set<Modifier> flags = ((VariableTree) member).getModifiers().getFlags();
                    fields += flags.contains(Modifier.STATIC) ? 0 : 1;
                    must(5, !flags.contains(Modifier.STATIC) || flags.contains(Modifier.FINAL), member, "not final");
                }
                must(5, !(member instanceof BlockTree), member, "a block that sets fields");
            }
            must(11, fields <= MOST_FIELDS, tree, "fields: " + fields);
            must(2, around() == null, tree, "a class inside of a method");
            return super.visitClass(tree, none);
        }

        @Override
        public Void visitMethod(MethodTree tree, Void none) {
            Element method = trees.getElement(getCurrentPath());
            calls.computeIfAbsent(name(method), k -> new TreeSet<>());
            long first = line(trees.getSourcePositions().getStartPosition(unit, tree));
            long last = line(trees.getSourcePositions().getEndPosition(unit, tree));
            must(11, last - first + 1 <= MOST_LINES, tree, method + " is too long");
            must(11, tree.getParameters().size() <= MOST_PARAMETERS, tree, method + " has too many parameters");
            boolean own = Set.of("equals", "hashCode", "toString").contains("" + tree.getName());
            must(6, !own, tree, "" + method);
            return super.visitMethod(tree, none);
        }

        @Override
        public Void visitMethodInvocation(MethodInvocationTree tree, Void none) {
            ExecutableElement called = (ExecutableElement) trees.getElement(getCurrentPath());
            MethodTree caller = around();
            // A constructor's first line, which javac writes itself.
            boolean isSuper = ("" + tree.getMethodSelect()).equals("super");
            if (isOwn(called)) {
                must(12, caller != null, tree, "a field set by " + called);
                if (caller != null) {
                    Element from = trees.getElement(trees.getPath(unit, caller));
                    calls.computeIfAbsent(name(from), k -> new TreeSet<>()).add(name(called));
                }
            } else if (!isSuper) {
                must(4, isOfLibrary(called), tree, name(called));
            }
            return super.visitMethodInvocation(tree, none);
        }

        private static boolean isOfLibrary(ExecutableElement called) {
            String type = "" + called.getEnclosingElement().getSimpleName();
            String plain = type + "." + called.getSimpleName();
            if (!NUMBERS.contains(type)) {
                return LIBRARY.contains(plain);
            }
            boolean overWhole = called.getParameters().stream()
                    .allMatch(p -> Set.of("int", "long").contains("" + p.asType()));
            return overWhole && !plain.endsWith("Exact") && !plain.endsWith("random");
        }

        @Override
        public Void visitNewClass(NewClassTree tree, Void none) {
            boolean thrown = getCurrentPath().getParentPath().getLeaf() instanceof ThrowTree;
            Element made = trees.getElement(getCurrentPath());
            must(4, thrown || isOwn(made), tree, "new " + tree.getIdentifier());
            must(2, tree.getClassBody() == null, tree, "a class without a name");
            MethodTree caller = around();
            if (!thrown && caller != null && made != null) {
                Element from = trees.getElement(trees.getPath(unit, caller));
                calls.computeIfAbsent(name(from), k -> new TreeSet<>()).add(name(made));
            }
            return super.visitNewClass(tree, none);
        }

        @Override
        public Void visitThrow(ThrowTree tree, Void none) {
            boolean made = tree.getExpression() instanceof NewClassTree;
            must(6, made, tree, "" + tree);
            if (made) {
                NewClassTree thrown = (NewClassTree) tree.getExpression();
                must(6, THROWN.contains("" + thrown.getIdentifier()), tree, "" + tree);
                boolean written = thrown.getArguments().isEmpty() || thrown.getArguments().size() == 1
                        && thrown.getArguments().get(0).getKind() == Tree.Kind.STRING_LITERAL;
                must(6, written, tree, "a text that is not written there");
            }
            MethodTree method = around();
            must(6, method != null && method.getReturnType() != null, tree, "a throw in a constructor");
            return super.visitThrow(tree, none);
        }

        /** The rules leave a try for exceptions that code throws; there is none, so that none catches the machine's. */
        @Override
        public Void visitTry(TryTree tree, Void none) {
            must(6, false, tree, "a try");
            return super.visitTry(tree, none);
        }

        @Override
        public Void visitAssert(AssertTree tree, Void none) {
            must(6, false, tree, "an assert");
            return super.visitAssert(tree, none);
        }

        @Override
        public Void visitSynchronized(SynchronizedTree tree, Void none) {
            must(6, false, tree, "synchronized");
            return super.visitSynchronized(tree, none);
        }

        @Override
        public Void visitLambdaExpression(LambdaExpressionTree tree, Void none) {
            must(2, false, tree, "a lambda");
            return super.visitLambdaExpression(tree, none);
        }

        @Override
        public Void visitMemberReference(MemberReferenceTree tree, Void none) {
            must(2, false, tree, "a method reference");
            return super.visitMemberReference(tree, none);
        }

        @Override
        public Void visitTypeCast(TypeCastTree tree, Void none) {
            must(6, "int long short byte char".contains("" + tree.getType()), tree, "a cast to " + tree.getType());
            return super.visitTypeCast(tree, none);
        }

        @Override
        public Void visitBinary(BinaryTree tree, Void none) {
            boolean texts = isText(tree.getLeftOperand()) || isText(tree.getRightOperand());
            must(10, !texts, tree, "an operator on texts");
            if (tree.getKind() == Tree.Kind.DIVIDE || tree.getKind() == Tree.Kind.REMAINDER) {
                must(7, isNumberButNought(tree.getRightOperand()), tree, "a divisor that is no written number");
            }
            return super.visitBinary(tree, none);
        }

        @Override
        public Void visitCompoundAssignment(CompoundAssignmentTree tree, Void none) {
            must(10, !isText(tree.getVariable()), tree, "an operator on texts");
            boolean divides = tree.getKind() == Tree.Kind.DIVIDE_ASSIGNMENT
                    || tree.getKind() == Tree.Kind.REMAINDER_ASSIGNMENT;
            must(7, !divides || isNumberButNought(tree.getExpression()), tree, "a divisor that is no written number");
            return super.visitCompoundAssignment(tree, none);
        }

        private static boolean isNumberButNought(ExpressionTree tree) {
            return tree.getKind() == Tree.Kind.INT_LITERAL && !("" + tree).equals("0");
        }

        @Override
        public Void visitForLoop(ForLoopTree tree, Void none) {
            boolean bound = tree.getCondition() != null && ("" + tree.getCondition()).matches("(?s).*[<>].*");
            must(9, bound, tree, "a for without a bound");
            return super.visitForLoop(tree, none);
        }

        @Override
        public Void visitWhileLoop(WhileLoopTree tree, Void none) {
            must(9, ("" + tree.getCondition()).matches("(?s).*[<>].*"), tree, "a while without a bound");
            return super.visitWhileLoop(tree, none);
        }

        @Override
        public Void visitDoWhileLoop(DoWhileLoopTree tree, Void none) {
            must(9, ("" + tree.getCondition()).matches("(?s).*[<>].*"), tree, "a do without a bound");
            return super.visitDoWhileLoop(tree, none);
        }

        @Override
        public Void visitEnhancedForLoop(EnhancedForLoopTree tree, Void none) {
            must(12, false, tree, "a for over a row, which may make an iterator");
            return super.visitEnhancedForLoop(tree, none);
        }
    }
}
