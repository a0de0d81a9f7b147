import com.sun.source.tree.AssertTree;
import com.sun.source.tree.BinaryTree;
import com.sun.source.tree.BlockTree;
import com.sun.source.tree.CatchTree;
import com.sun.source.tree.ClassTree;
import com.sun.source.tree.CompilationUnitTree;
import com.sun.source.tree.CompoundAssignmentTree;
import com.sun.source.tree.EnhancedForLoopTree;
import com.sun.source.tree.ExpressionTree;
import com.sun.source.tree.ForLoopTree;
import com.sun.source.tree.ImportTree;
import com.sun.source.tree.LambdaExpressionTree;
import com.sun.source.tree.LiteralTree;
import com.sun.source.tree.MemberReferenceTree;
import com.sun.source.tree.MethodInvocationTree;
import com.sun.source.tree.MethodTree;
import com.sun.source.tree.NewArrayTree;
import com.sun.source.tree.NewClassTree;
import com.sun.source.tree.SwitchExpressionTree;
import com.sun.source.tree.SwitchTree;
import com.sun.source.tree.SynchronizedTree;
import com.sun.source.tree.ThrowTree;
import com.sun.source.tree.Tree;
import com.sun.source.tree.TryTree;
import com.sun.source.tree.VariableTree;
import com.sun.source.tree.WhileLoopTree;
import com.sun.source.util.JavacTask;
import com.sun.source.util.TreePath;
import com.sun.source.util.TreePathScanner;
import com.sun.source.util.Trees;
import java.nio.file.Path;
import java.util.HashMap;
import java.util.HashSet;
import java.util.List;
import java.util.Map;
import java.util.Set;
import javax.lang.model.element.Element;
import javax.lang.model.element.ElementKind;
import javax.lang.model.element.Modifier;
import javax.lang.model.element.TypeElement;
import javax.lang.model.type.TypeMirror;
import javax.tools.JavaCompiler;
import javax.tools.StandardJavaFileManager;
import javax.tools.ToolProvider;

/**
 * The rules of LANGUAGE.md that can be seen in the source: its parts, its library, its exceptions,
 * how long and how deep it is. What is allowed but unused (records, lists, double) is refused here
 * too, until a row is added for it.
 */
public final class LanguageTest {
    private static final Path SOURCE =
        Path.of(System.getProperty("root", "."), "src", "main", "java", "StoneWalk.java");
    private static final int MOST_PARAMETERS = 7;
    private static final int MOST_LINES = 60;
    private static final int MOST_CLASSES = 12;
    private static final int MOST_FIELDS = 20;
    private static final int DEEPEST = 8;
    private static final Set<String> LIBRARY = Set.of(
        "java.lang.String.length", "java.lang.String.charAt", "java.lang.Math.max", "java.lang.Math.min",
        "java.lang.Math.abs", "java.lang.Integer.compare", "java.lang.Object.<init>",
        "java.util.NoSuchElementException.<init>");
    private static final Set<String> EXCEPTIONS = Set.of("IllegalStateException",
        "IllegalArgumentException", "IndexOutOfBoundsException", "ArithmeticException",
        "UnsupportedOperationException", "NoSuchElementException", "RuntimeException");
    private static final Set<String> TYPES = Set.of("int", "long", "short", "byte", "char", "boolean",
        "int[]", "long[]", "short[]", "byte[]", "char[]", "boolean[]", "java.lang.String");

    public static void main(String[] args) throws Exception {
        JavaCompiler compiler = ToolProvider.getSystemJavaCompiler();
        try (StandardJavaFileManager files = compiler.getStandardFileManager(null, null, null)) {
            JavacTask task = (JavacTask) compiler.getTask(null, files, null, List.of(), null,
                files.getJavaFileObjects(SOURCE));
            CompilationUnitTree unit = task.parse().iterator().next();
            task.analyze();
            Check.due("rule 1: a package line", unit.getPackageName() != null, false);
            Check.due("rule 1: classes beside the one", unit.getTypeDecls().size(), 1);
            Rules rules = new Rules(Trees.instance(task), unit);
            rules.scan(unit, null);
            rules.whole();
        }
        Check.end("LanguageTest");
    }

    private static final class Rules extends TreePathScanner<Void, Void> {
        private final Trees trees;
        private final CompilationUnitTree unit;
        private final Map<Element, Set<Element>> calls = new HashMap<>();
        private final Map<Element, Boolean> callsLibrary = new HashMap<>();
        private final Set<String> open = new HashSet<>();
        private final Set<String> hidden = new HashSet<>();
        private int classes;
        private Element method;

        Rules(Trees trees, CompilationUnitTree unit) {
            this.trees = trees;
            this.unit = unit;
        }

        private void due(int rule, String what, Tree at, boolean kept) {
            long line = unit.getLineMap().getLineNumber(start(at));
            Check.due("rule " + rule + ", line " + line + ": " + what, kept, true);
        }

        private void never(int rule, String what, Tree at) {
            due(rule, what, at, false);
        }

        private long start(Tree at) {
            return trees.getSourcePositions().getStartPosition(unit, at);
        }

        private Element element() {
            return trees.getElement(getCurrentPath());
        }

        private TypeMirror type(Tree at) {
            return trees.getTypeMirror(new TreePath(getCurrentPath(), at));
        }

        private boolean isText(Tree at) {
            return "java.lang.String".equals(String.valueOf(type(at)));
        }

        private boolean isOwn(Element e) {
            Element outer = e;
            while (outer.getEnclosingElement().getKind() != ElementKind.PACKAGE) {
                outer = outer.getEnclosingElement();
            }
            return outer.getSimpleName().contentEquals("StoneWalk");
        }

        /** What can be told only when all has been looked at. */
        void whole() {
            Check.due("rule 11: classes", classes <= MOST_CLASSES, true);
            hidden.retainAll(open);
            Check.due("rule 1: private methods with names of the face " + hidden, hidden.size(), 0);
            for (Element from : calls.keySet()) {
                int depth = depth(from, 0);
                Check.due("rule 11: " + from + " goes " + depth + " deep", depth <= DEEPEST, true);
            }
        }

        /** How many calls stand open at once; far too many if they go round. */
        private int depth(Element from, int above) {
            if (above > DEEPEST) {
                return 1;
            }
            int deepest = callsLibrary.getOrDefault(from, false) ? 1 : 0;
            for (Element to : calls.getOrDefault(from, Set.of())) {
                deepest = Math.max(deepest, depth(to, above + 1));
            }
            return deepest + 1;
        }

        @Override
        public Void visitImport(ImportTree t, Void p) {
            String name = t.getQualifiedIdentifier().toString();
            due(4, "import of " + name, t, name.equals("java.util.NoSuchElementException"));
            return null;
        }

        @Override
        public Void visitClass(ClassTree t, Void p) {
            classes++;
            Element e = element();
            boolean outer = e.getEnclosingElement().getKind() == ElementKind.PACKAGE;
            due(2, "a class of a class", t, outer || e.getEnclosingElement().getKind() == ElementKind.CLASS);
            due(2, e + " is private, static and a plain class", t, outer || e.getKind() == ElementKind.CLASS
                && e.getModifiers().contains(Modifier.STATIC) && e.getModifiers().contains(Modifier.PRIVATE));
            int fields = 0;
            for (Tree member : t.getMembers()) {
                due(5, "no initialiser block", member, !(member instanceof BlockTree));
                boolean constant = member instanceof VariableTree
                    && ((VariableTree) member).getModifiers().getFlags().contains(Modifier.STATIC);
                fields += member instanceof VariableTree && !constant ? 1 : 0;
            }
            due(11, e + " has " + fields + " fields", t, fields <= MOST_FIELDS);
            return super.visitClass(t, p);
        }

        @Override
        public Void visitMethod(MethodTree t, Void p) {
            Element before = method;
            method = element();
            calls.computeIfAbsent(method, e -> new HashSet<>());
            String name = t.getName().toString();
            boolean face = method.getModifiers().contains(Modifier.PUBLIC);
            boolean ofFace = method.getEnclosingElement().getSimpleName().contentEquals("StoneWalk");
            due(1, name + " is public in the outer class alone", t, !face || ofFace);
            due(1, name + " is private in the outer class else", t,
                face || !ofFace || method.getModifiers().contains(Modifier.PRIVATE));
            if (method.getKind() == ElementKind.METHOD) {
                (face ? open : hidden).add(name);
            }
            due(6, name, t, !Set.of("equals", "hashCode", "toString").contains(name));
            due(11, name + "'s parameters", t, t.getParameters().size() <= MOST_PARAMETERS);
            long end = trees.getSourcePositions().getEndPosition(unit, t);
            long lines = unit.getLineMap().getLineNumber(end) - unit.getLineMap().getLineNumber(start(t)) + 1;
            due(11, name + " has " + lines + " lines", t, lines <= MOST_LINES);
            super.visitMethod(t, p);
            method = before;
            return null;
        }

        @Override
        public Void visitVariable(VariableTree t, Void p) {
            Element e = element();
            String type = e.asType().toString();
            String plain = type.endsWith("[]") ? type.substring(0, type.length() - 2) : type;
            due(3, "type " + type + " of " + t.getName(), t,
                TYPES.contains(type) || plain.startsWith("StoneWalk."));
            if (e.getModifiers().contains(Modifier.STATIC)) {
                due(5, t.getName() + " is final", t, e.getModifiers().contains(Modifier.FINAL));
                due(5, t.getName() + " is written out", t, t.getInitializer() != null
                    && (TYPES.contains(type) && !type.equals("boolean[]")));
            }
            return super.visitVariable(t, p);
        }

        @Override
        public Void visitMethodInvocation(MethodInvocationTree t, Void p) {
            Element called = element();
            if (isOwn(called)) {
                if (method != null && called.getKind() == ElementKind.METHOD) {
                    calls.get(method).add(called);
                }
            } else {
                String name = ((TypeElement) called.getEnclosingElement()).getQualifiedName() + "."
                    + called.getSimpleName();
                due(4, name, t, LIBRARY.contains(name));
                callsLibrary.put(method, true);
            }
            return super.visitMethodInvocation(t, p);
        }

        /** All that is made is made by constructors or stands in a field; but for what is thrown. */
        @Override
        public Void visitNewClass(NewClassTree t, Void p) {
            boolean thrown = getCurrentPath().getParentPath().getLeaf() instanceof ThrowTree;
            due(12, "an object made by a call", t, thrown || isOfConstructor());
            due(2, "an anonymous class", t, t.getClassBody() == null);
            return super.visitNewClass(t, p);
        }

        @Override
        public Void visitNewArray(NewArrayTree t, Void p) {
            due(12, "an array made by a call", t, isOfConstructor());
            return super.visitNewArray(t, p);
        }

        private boolean isOfConstructor() {
            return method == null || method.getKind() == ElementKind.CONSTRUCTOR;
        }

        @Override
        public Void visitThrow(ThrowTree t, Void p) {
            boolean made = t.getExpression() instanceof NewClassTree;
            due(6, "what is thrown is new", t, made);
            if (made) {
                NewClassTree thrown = (NewClassTree) t.getExpression();
                due(6, "exception " + thrown.getIdentifier(), t,
                    EXCEPTIONS.contains(thrown.getIdentifier().toString()));
                for (ExpressionTree text : thrown.getArguments()) {
                    due(6, "its text is written out", t, text instanceof LiteralTree);
                }
            }
            due(6, "a throw in a constructor", t, method.getKind() == ElementKind.METHOD);
            return super.visitThrow(t, p);
        }

        @Override
        public Void visitTry(TryTree t, Void p) {
            due(6, "no finally, no resources", t, t.getFinallyBlock() == null && t.getResources().isEmpty());
            return super.visitTry(t, p);
        }

        /** Nothing here throws but led(), so there is nothing that may be caught. */
        @Override
        public Void visitCatch(CatchTree t, Void p) {
            never(6, "a catch", t);
            return super.visitCatch(t, p);
        }

        @Override
        public Void visitBinary(BinaryTree t, Void p) {
            boolean text = isText(t.getLeftOperand()) || isText(t.getRightOperand());
            boolean compared = t.getKind() == Tree.Kind.EQUAL_TO || t.getKind() == Tree.Kind.NOT_EQUAL_TO;
            due(text && compared ? 6 : 10, "texts joined or compared by a sign", t, !text);
            return super.visitBinary(t, p);
        }

        @Override
        public Void visitCompoundAssignment(CompoundAssignmentTree t, Void p) {
            due(10, "texts joined by a sign", t, !isText(t.getVariable()));
            return super.visitCompoundAssignment(t, p);
        }

        @Override
        public Void visitLiteral(LiteralTree t, Void p) {
            if (t.getValue() instanceof String) {
                boolean plain = ((String) t.getValue()).chars().allMatch(c -> c >= 1 && c <= 127);
                due(4, "signs of a text", t, plain);
            }
            return super.visitLiteral(t, p);
        }

        @Override
        public Void visitSwitch(SwitchTree t, Void p) {
            due(10, "a switch on a text", t, !isText(t.getExpression()));
            return super.visitSwitch(t, p);
        }

        @Override
        public Void visitWhileLoop(WhileLoopTree t, Void p) {
            due(9, "a loop without an end", t, !t.getCondition().toString().equals("(true)"));
            return super.visitWhileLoop(t, p);
        }

        @Override
        public Void visitForLoop(ForLoopTree t, Void p) {
            due(9, "a loop without an end", t, t.getCondition() != null && !t.getUpdate().isEmpty());
            return super.visitForLoop(t, p);
        }

        @Override
        public Void visitEnhancedForLoop(EnhancedForLoopTree t, Void p) {
            due(12, "an iterator made by a call", t, type(t.getExpression()).toString().endsWith("[]"));
            return super.visitEnhancedForLoop(t, p);
        }

        @Override
        public Void visitSwitchExpression(SwitchExpressionTree t, Void p) {
            due(10, "a switch on a text", t, !isText(t.getExpression()));
            return super.visitSwitchExpression(t, p);
        }

        @Override
        public Void visitLambdaExpression(LambdaExpressionTree t, Void p) {
            never(2, "a lambda", t);
            return null;
        }

        @Override
        public Void visitMemberReference(MemberReferenceTree t, Void p) {
            never(2, "a method reference", t);
            return null;
        }

        @Override
        public Void visitSynchronized(SynchronizedTree t, Void p) {
            never(6, "synchronized", t);
            return null;
        }

        @Override
        public Void visitAssert(AssertTree t, Void p) {
            never(6, "assert", t);
            return null;
        }
    }
}
