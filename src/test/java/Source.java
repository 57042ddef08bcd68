import com.sun.source.tree.AssignmentTree;
import com.sun.source.tree.BinaryTree;
import com.sun.source.tree.ClassTree;
import com.sun.source.tree.CompilationUnitTree;
import com.sun.source.tree.CompoundAssignmentTree;
import com.sun.source.tree.ConditionalExpressionTree;
import com.sun.source.tree.ExpressionTree;
import com.sun.source.tree.ForLoopTree;
import com.sun.source.tree.LiteralTree;
import com.sun.source.tree.MethodInvocationTree;
import com.sun.source.tree.MethodTree;
import com.sun.source.tree.NewArrayTree;
import com.sun.source.tree.NewClassTree;
import com.sun.source.tree.ParenthesizedTree;
import com.sun.source.tree.ThrowTree;
import com.sun.source.tree.Tree;
import com.sun.source.tree.TypeCastTree;
import com.sun.source.tree.UnaryTree;
import com.sun.source.tree.VariableTree;
import com.sun.source.tree.WhileLoopTree;
import com.sun.source.util.JavacTask;
import com.sun.source.util.SourcePositions;
import com.sun.source.util.TreePath;
import com.sun.source.util.TreePathScanner;
import com.sun.source.util.Trees;
import java.io.IOException;
import java.net.URI;
import java.util.ArrayList;
import java.util.List;
import java.util.Map;
import java.util.Set;
import java.util.TreeMap;
import java.util.TreeSet;
import javax.lang.model.element.Element;
import javax.lang.model.element.Modifier;
import javax.lang.model.element.TypeElement;
import javax.lang.model.type.TypeMirror;
import javax.tools.JavaCompiler;
import javax.tools.JavaFileObject;
import javax.tools.SimpleJavaFileObject;
import javax.tools.ToolProvider;

/**
 * Reads a text as the compiler does, and tells what in it LANGUAGE.md does not leave: a rule's number, and where. It is
 * narrower than the rules (what SlipHeaps has no use for is a flaw here, though a rule leaves it).
 */
final class Source {
    private static final Set<Tree.Kind> STRANGE = Set.of(Tree.Kind.LAMBDA_EXPRESSION, Tree.Kind.MEMBER_REFERENCE, Tree.Kind.TRY,
        Tree.Kind.CATCH, Tree.Kind.ASSERT, Tree.Kind.SYNCHRONIZED, Tree.Kind.INSTANCE_OF, Tree.Kind.SWITCH_EXPRESSION,
        Tree.Kind.ENHANCED_FOR_LOOP, Tree.Kind.ANNOTATION, Tree.Kind.REMAINDER, Tree.Kind.REMAINDER_ASSIGNMENT,
        Tree.Kind.DIVIDE_ASSIGNMENT, Tree.Kind.NULL_LITERAL, Tree.Kind.DO_WHILE_LOOP);
    private static final Set<String> TYPES = Set.of("int", "long", "boolean", "String", "int[]", "long[]");
    private static final Set<String> CONSTANTS = Set.of("int", "long", "boolean", "char", "String");
    private static final Set<String> LIBRARY = Set.of("Arrays.fill(int[],int)", "System.arraycopy(java.lang.Object,int,java.lang.Object,int,int)",
        "Integer.bitCount(int)", "Integer.numberOfTrailingZeros(int)", "Long.bitCount(long)", "Math.abs(int)", "Math.max(int,int)",
        "Math.min(int,int)", "String.length()", "String.charAt(int)");
    private static final Set<String> THROWN = Set.of("new IllegalArgumentException()", "new NoSuchElementException()");

    private final List<String> flaws = new ArrayList<>();
    private final Map<String, Set<String>> calls = new TreeMap<>();
    private final Set<String> open = new TreeSet<>();
    private final Map<String, List<String>> parameters = new TreeMap<>();
    private CompilationUnitTree unit;
    private Trees trees;
    private int classes;

    private Source() {
    }

    static List<String> flaws(String name, String text) throws IOException {
        Source source = new Source();
        JavaCompiler compiler = ToolProvider.getSystemJavaCompiler();
        JavaFileObject file = new SimpleJavaFileObject(URI.create("string:///" + name + ".java"), JavaFileObject.Kind.SOURCE) {
            @Override
            public CharSequence getCharContent(boolean ignoring) {
                return text;
            }
        };
        JavacTask task = (JavacTask) compiler.getTask(null, null, problem -> source.flaws.add("0 " + problem),
            List.of("-proc:none", "--release", "17"), null, List.of(file));
        source.unit = task.parse().iterator().next();
        task.analyze();
        source.trees = Trees.instance(task);
        source.new Looker().scan(source.unit, null);
        source.lookAtGraph();
        return source.flaws;
    }

    private void flawUnless(boolean fit, String rule, Object where) {
        if (!fit) {
            String text = where.toString().strip();
            flaws.add(rule + " " + (text.length() > 90 ? text.substring(0, 90) : text).replaceAll("\\s+", " "));
        }
    }

    private static String shortName(Element method) {
        return method.getEnclosingElement().getSimpleName() + "." + method.getSimpleName();
    }

    private static ExpressionTree bare(ExpressionTree e) {
        return e instanceof ParenthesizedTree p ? bare(p.getExpression()) : e;
    }

    /** Goes over all of the text once; the second argument is the method that a tree stands in. */
    private final class Looker extends TreePathScanner<Void, String> {
        private TypeMirror typeOf(Tree tree) {
            return trees.getTypeMirror(new TreePath(getCurrentPath(), tree));
        }

        private boolean isText(Tree tree) {
            TypeMirror type = typeOf(tree);
            return type != null && type.toString().equals("java.lang.String");
        }

        @Override
        public Void scan(Tree tree, String method) {
            if (tree != null) {
                flawUnless(!STRANGE.contains(tree.getKind()), "10", tree);
            }
            return super.scan(tree, method);
        }

        @Override
        public Void visitClass(ClassTree tree, String method) {
            classes++;
            Set<Modifier> modifiers = tree.getModifiers().getFlags();
            Tree outer = getCurrentPath().getParentPath().getLeaf();
            flawUnless(outer instanceof CompilationUnitTree || outer instanceof ClassTree, "2", tree);
            boolean inside = outer instanceof ClassTree;
            flawUnless(!inside || modifiers.contains(Modifier.STATIC) && !modifiers.contains(Modifier.PUBLIC), "1", tree);
            flawUnless(inside || modifiers.equals(Set.of(Modifier.PUBLIC, Modifier.FINAL)), "1", tree);
            long fields = tree.getMembers().stream().filter(m -> m instanceof VariableTree v
                && !v.getModifiers().getFlags().contains(Modifier.STATIC)).count();
            flawUnless(fields <= 20, "11", "fields of " + tree.getSimpleName());
            flawUnless(tree.getMembers().stream().noneMatch(m -> m.getKind() == Tree.Kind.BLOCK), "5", tree);
            return super.visitClass(tree, method);
        }

        @Override
        public Void visitVariable(VariableTree tree, String method) {
            Set<Modifier> modifiers = tree.getModifiers().getFlags();
            String type = tree.getType() == null ? "var" : tree.getType().toString();
            Element known = trees.getElement(getCurrentPath());
            boolean own = known != null && known.asType().toString().startsWith("SlipHeaps");
            flawUnless(TYPES.contains(type) || own, "3", tree);
            if (modifiers.contains(Modifier.STATIC)) {
                flawUnless(modifiers.contains(Modifier.FINAL) && CONSTANTS.contains(type), "5", tree);
            }
            return super.visitVariable(tree, method);
        }

        @Override
        public Void visitMethod(MethodTree tree, String outer) {
            Element element = trees.getElement(getCurrentPath());
            String name = shortName(element);
            boolean isOpen = tree.getModifiers().getFlags().contains(Modifier.PUBLIC);
            calls.computeIfAbsent(name, n -> new TreeSet<>());
            parameters.put(name, tree.getParameters().stream().map(p -> p.getType() + " " + p.getName()).toList());
            if (isOpen && tree.getReturnType() != null) {
                open.add(element.getSimpleName().toString());
            }
            SourcePositions places = trees.getSourcePositions();
            long first = unit.getLineMap().getLineNumber(places.getStartPosition(unit, tree));
            long last = unit.getLineMap().getLineNumber(places.getEndPosition(unit, tree));
            flawUnless(last - first < 60, "11", "lines of " + name);
            flawUnless(tree.getParameters().size() <= 7, "11", "parameters of " + name);
            return super.visitMethod(tree, name);
        }

        @Override
        public Void visitMethodInvocation(MethodInvocationTree tree, String method) {
            Element called = trees.getElement(getCurrentPath());
            TypeElement owner = (TypeElement) called.getEnclosingElement();
            if (owner.getQualifiedName().toString().startsWith("SlipHeaps")) {
                flawUnless(method != null && !method.endsWith(".<init>"), "12", tree);
                if (method != null) {
                    calls.get(method).add(shortName(called));
                }
            } else if (called.getSimpleName().toString().equals("<init>")) {
                flawUnless(tree.getArguments().isEmpty(), "4", tree);
            } else {
                flawUnless(LIBRARY.contains(owner.getSimpleName() + "." + called), "4", called);
            }
            return super.visitMethodInvocation(tree, method);
        }

        @Override
        public Void visitNewClass(NewClassTree tree, String method) {
            boolean thrown = getCurrentPath().getParentPath().getLeaf() instanceof ThrowTree;
            flawUnless(thrown || method == null, "12", tree);
            flawUnless(tree.getClassBody() == null, "2", tree);
            return super.visitNewClass(tree, method);
        }

        @Override
        public Void visitNewArray(NewArrayTree tree, String method) {
            flawUnless(method == null && tree.getDimensions().size() == 1, "12", tree);
            return super.visitNewArray(tree, method);
        }

        @Override
        public Void visitThrow(ThrowTree tree, String method) {
            flawUnless(THROWN.contains(tree.getExpression().toString()) && method != null && !method.endsWith(".<init>"), "6", tree);
            return super.visitThrow(tree, method);
        }

        @Override
        public Void visitTypeCast(TypeCastTree tree, String method) {
            flawUnless(Set.of("int", "long").contains(tree.getType().toString()), "7", tree);
            return super.visitTypeCast(tree, method);
        }

        @Override
        public Void visitBinary(BinaryTree tree, String method) {
            boolean texts = isText(tree.getLeftOperand()) || isText(tree.getRightOperand());
            flawUnless(!texts, tree.getKind() == Tree.Kind.PLUS ? "10" : "6", tree);
            if (tree.getKind() == Tree.Kind.DIVIDE) {
                flawUnless(isLookedAt(tree), "7", tree);
            }
            return super.visitBinary(tree, method);
        }

        /** A divisor is a written number other than 0, or is held against 0 just ahead. */
        private boolean isLookedAt(BinaryTree division) {
            ExpressionTree divisor = bare(division.getRightOperand());
            if (divisor instanceof LiteralTree number) {
                return !number.getValue().equals(0);
            }
            return getCurrentPath().getParentPath().getLeaf() instanceof ConditionalExpressionTree choice
                && choice.getFalseExpression() == division
                && bare(choice.getCondition()).toString().equals(divisor + " == 0");
        }

        @Override
        public Void visitForLoop(ForLoopTree tree, String method) {
            boolean counted = tree.getUpdate().size() == 1 && tree.getCondition() != null
                && ends(tree.getCondition(), tree.getUpdate().get(0).getExpression());
            flawUnless(counted, "9", tree);
            return super.visitForLoop(tree, method);
        }

        @Override
        public Void visitWhileLoop(WhileLoopTree tree, String method) {
            List<ExpressionTree> steps = new ArrayList<>();
            new TreePathScanner<Void, Void>() {
                @Override
                public Void visitUnary(UnaryTree step, Void none) {
                    steps.add(step);
                    return null;
                }
            }.scan(new TreePath(getCurrentPath(), tree.getStatement()), null);
            flawUnless(steps.stream().anyMatch(step -> ends(tree.getCondition(), step)), "9", tree);
            return super.visitWhileLoop(tree, method);
        }

        /** One of what must hold all together bounds the counter on the side to which it steps. */
        private boolean ends(ExpressionTree condition, ExpressionTree step) {
            ExpressionTree test = bare(condition);
            if (test.getKind() == Tree.Kind.CONDITIONAL_AND) {
                BinaryTree both = (BinaryTree) test;
                return ends(both.getLeftOperand(), step) || ends(both.getRightOperand(), step);
            }
            boolean up = step.getKind() == Tree.Kind.POSTFIX_INCREMENT;
            boolean down = step.getKind() == Tree.Kind.POSTFIX_DECREMENT || step.getKind() == Tree.Kind.MINUS_ASSIGNMENT;
            boolean below = test.getKind() == Tree.Kind.LESS_THAN || test.getKind() == Tree.Kind.LESS_THAN_EQUAL;
            boolean above = test.getKind() == Tree.Kind.GREATER_THAN || test.getKind() == Tree.Kind.GREATER_THAN_EQUAL;
            if (!(up && below || down && above)) {
                return false;
            }
            ExpressionTree counter = step instanceof UnaryTree one ? one.getExpression() : ((CompoundAssignmentTree) step).getVariable();
            return ((BinaryTree) test).getLeftOperand().toString().equals(counter.toString());
        }

        /** A counter of a loop is set by the loop's head alone. */
        @Override
        public Void visitAssignment(AssignmentTree tree, String method) {
            for (TreePath path = getCurrentPath(); path != null; path = path.getParentPath()) {
                if (path.getLeaf() instanceof ForLoopTree loop) {
                    String head = loop.getInitializer().toString();
                    flawUnless(!head.contains("int " + tree.getVariable() + " ="), "9", tree);
                }
            }
            return super.visitAssignment(tree, method);
        }
    }

    private void lookAtGraph() {
        flawUnless(classes <= 12, "11", "classes: " + classes);
        for (String name : calls.keySet()) {
            String owner = name.substring(0, name.indexOf('.'));
            flawUnless(owner.equals("SlipHeaps") || !open.contains(name.substring(name.indexOf('.') + 1)), "1", name);
        }
        Map<String, Set<String>> reached = new TreeMap<>();
        calls.keySet().forEach(name -> reached.put(name, reachedFrom(name)));
        Map<String, Set<String>> groups = new TreeMap<>();
        for (String name : calls.keySet()) {
            Set<String> group = new TreeSet<>(Set.of(name));
            reached.get(name).stream().filter(other -> reached.get(other).contains(name)).forEach(group::add);
            groups.put(name, group);
            boolean again = reached.get(name).contains(name);
            boolean deep = parameters.get(name).stream().anyMatch(p -> p.equals("int depth") || p.equals("int i"));
            flawUnless(!again || deep, "8", name);
            flawUnless(!again || !open.contains(name.substring(name.indexOf('.') + 1)), "8", name);
        }
        for (String name : calls.keySet()) {
            List<String> path = deepest(groups.get(name), groups);
            if (path.size() > 8) {
                flaws.add("11 " + String.join(" > ", path));
            }
        }
    }

    private Set<String> reachedFrom(String name) {
        Set<String> seen = new TreeSet<>();
        List<String> next = new ArrayList<>(calls.get(name));
        while (!next.isEmpty()) {
            String one = next.remove(next.size() - 1);
            if (seen.add(one)) {
                next.addAll(calls.getOrDefault(one, Set.of()));
            }
        }
        return seen;
    }

    /** Methods that call one another count once. */
    private List<String> deepest(Set<String> group, Map<String, Set<String>> groups) {
        List<String> longest = new ArrayList<>();
        for (String name : group) {
            for (String called : calls.get(name)) {
                if (!group.contains(called) && groups.containsKey(called)) {
                    List<String> path = deepest(groups.get(called), groups);
                    longest = path.size() > longest.size() ? path : longest;
                }
            }
        }
        longest.add(0, String.join("|", group));
        return longest;
    }
}
