import com.sun.source.tree.ArrayAccessTree;
import com.sun.source.tree.AssignmentTree;
import com.sun.source.tree.BinaryTree;
import com.sun.source.tree.BlockTree;
import com.sun.source.tree.ClassTree;
import com.sun.source.tree.CompilationUnitTree;
import com.sun.source.tree.CompoundAssignmentTree;
import com.sun.source.tree.EnhancedForLoopTree;
import com.sun.source.tree.ExpressionTree;
import com.sun.source.tree.ForLoopTree;
import com.sun.source.tree.IdentifierTree;
import com.sun.source.tree.LiteralTree;
import com.sun.source.tree.MethodInvocationTree;
import com.sun.source.tree.MethodTree;
import com.sun.source.tree.NewArrayTree;
import com.sun.source.tree.NewClassTree;
import com.sun.source.tree.ParenthesizedTree;
import com.sun.source.tree.StatementTree;
import com.sun.source.tree.ThrowTree;
import com.sun.source.tree.Tree;
import com.sun.source.tree.TypeCastTree;
import com.sun.source.tree.UnaryTree;
import com.sun.source.tree.VariableTree;
import com.sun.source.util.JavacTask;
import com.sun.source.util.TreePathScanner;
import com.sun.source.util.Trees;
import java.io.IOException;
import java.net.URI;
import java.nio.file.Files;
import java.nio.file.Path;
import java.util.ArrayList;
import java.util.EnumSet;
import java.util.HashMap;
import java.util.HashSet;
import java.util.List;
import java.util.Map;
import java.util.Set;
import javax.lang.model.element.Element;
import javax.lang.model.element.ElementKind;
import javax.lang.model.element.ExecutableElement;
import javax.lang.model.element.Modifier;
import javax.lang.model.type.ArrayType;
import javax.lang.model.type.TypeKind;
import javax.lang.model.type.TypeMirror;
import javax.tools.JavaFileObject;
import javax.tools.SimpleJavaFileObject;
import javax.tools.ToolProvider;

/**
 * The rules of LANGUAGE.md, read off the file's tree as the compiler sees it. Where a rule leaves
 * more than the class needs, the narrower thing is asked for here; a session that needs more may
 * widen it up to the rule. Small texts that break one rule each show that a breach is found.
 */
public final class LanguageTest {
    private static final Path FILE = Path.of("src/main/java/EchoLine.java");
    private static final int MOST_CLASSES = 12;
    private static final int MOST_FIELDS = 20;
    private static final int MOST_PARAMETERS = 7;
    private static final int MOST_LINES = 60;
    private static final int DEEPEST_CALLS = 8;

    private static final Set<String> CALLS = Set.of("Math.abs", "Math.max", "Math.min", "Math.floorDiv",
        "Math.floorMod", "System.arraycopy", "Arrays.copyOf", "Arrays.copyOfRange", "Arrays.fill");
    private static final Set<String> EXCEPTIONS = Set.of("IllegalStateException",
        "IllegalArgumentException", "IndexOutOfBoundsException", "ArithmeticException",
        "UnsupportedOperationException", "NoSuchElementException", "RuntimeException");
    private static final Set<TypeKind> NUMBERS = EnumSet.of(TypeKind.INT, TypeKind.LONG, TypeKind.SHORT,
        TypeKind.BYTE, TypeKind.CHAR, TypeKind.DOUBLE, TypeKind.FLOAT);
    private static final Set<TypeKind> STATIC_VALUES = EnumSet.of(TypeKind.INT, TypeKind.LONG,
        TypeKind.BOOLEAN, TypeKind.CHAR);
    private static final Set<TypeKind> STATIC_ROWS = EnumSet.of(TypeKind.INT, TypeKind.LONG,
        TypeKind.CHAR, TypeKind.BYTE);
    private static final Set<Tree.Kind> OF_FRACTIONS = EnumSet.of(Tree.Kind.PLUS, Tree.Kind.MINUS,
        Tree.Kind.MULTIPLY, Tree.Kind.DIVIDE, Tree.Kind.LESS_THAN, Tree.Kind.LESS_THAN_EQUAL,
        Tree.Kind.GREATER_THAN, Tree.Kind.GREATER_THAN_EQUAL, Tree.Kind.EQUAL_TO, Tree.Kind.NOT_EQUAL_TO);
    private static final Set<Tree.Kind> BOUNDS = EnumSet.of(Tree.Kind.LESS_THAN, Tree.Kind.LESS_THAN_EQUAL,
        Tree.Kind.GREATER_THAN, Tree.Kind.GREATER_THAN_EQUAL);
    private static final Set<Tree.Kind> LEFT_OUT = EnumSet.of(Tree.Kind.LAMBDA_EXPRESSION,
        Tree.Kind.MEMBER_REFERENCE, Tree.Kind.SYNCHRONIZED, Tree.Kind.ASSERT, Tree.Kind.TRY,
        Tree.Kind.IMPORT, Tree.Kind.PACKAGE, Tree.Kind.INSTANCE_OF, Tree.Kind.SWITCH_EXPRESSION,
        Tree.Kind.ANNOTATION, Tree.Kind.WHILE_LOOP, Tree.Kind.DO_WHILE_LOOP);

    /** Each member breaks the rule at its head, and no other one. */
    private static final String[][] BREACHES = {
        {"1", "int shown;"},
        {"1", "private int digest(int part) { return part; }"},
        {"2", "private class Part { }"},
        {"2", "private void act() { Runnable run = () -> { }; }"},
        {"3", "private Object thing;"},
        {"3", "private int[][][] rows;"},
        {"3", "private double rest(double a) { return a % 2.0; }"},
        {"4", "private long bits(double a) { return Double.doubleToLongBits(a); }"},
        {"4", "private int more(int a) { return Math.addExact(a, 1); }"},
        {"4", "private static final String SIGN = \"\\u00e9\";"},
        {"5", "private static final double HALF = 0.5;"},
        {"5", "private static int made;"},
        {"5", "private static final int[] ROW = new int[3];"},
        {"5", "private static final int[][] ROWS = {{1}};"},
        {"5", "private static final int[] ROW = {1}; private void act() { ROW[0] = 2; }"},
        {"5", "static { }"},
        {"6", "private void act() { throw new IllegalStateException(told()); }\n"
            + "private String told() { return \"\"; }"},
        {"6", "private void act() { throw new ClassCastException(); }"},
        {"6", "private int act(int a) { try { return a; } catch (RuntimeException e) { return 0; } }"},
        {"6", "public int hashCode() { return 1; }"},
        {"6", "private boolean same(String a, String b) { return a == b; }"},
        {"6", "private void act() { synchronized (this) { } }"},
        {"8", "private int down(int a) { return a > 0 ? down(a - 1) : 0; }"},
        {"8", "private int one(int a) { return two(a); } private int two(int a) { return a > 0 ? one(a - 1) : 0; }"},
        {"9", "private void act(int a) { for (int i = 0; a > 0; i++) { } }"},
        {"9", "private void act(int a) { for (int i = 0; i < a; i++) { i = 0; } }"},
        {"9", "private void act(int a) { for (int i = 0; i > a; i++) { } }"},
        {"9", "private void act(int a) { for (int i = 0; i < a || a > 3; i++) { } }"},
        {"9", "private void act(int a) { while (a > 0) { a--; } }"},
        {"10", "private String joined(String a) { return a + \"b\"; }"},
        {"11", "private void act(int a, int b, int c, int d, int e, int f, int g, int h) { }"},
        {"11", "private void act(int a) { " + "\n".repeat(61) + " }"},
        {"11", "private void a1() { a2(); } private void a2() { a3(); } private void a3() { a4(); }\n"
            + "private void a4() { a5(); } private void a5() { a6(); } private void a6() { a7(); }\n"
            + "private void a7() { a8(); } private void a8() { a9(); } private void a9() { }"},
        {"12", "private static final class Part { Part() { act(); } void act() { } }"},
        {"12", "private static final class Part { Part(Other a) { } }\n"
            + "private static final class Other { Part part; Other() { part = new Part(this); } }"},
        {"12", "private int act() { int sum = 0; for (int i = 0; i < 3; i++) { sum += new int[3].length; }\n"
            + "return sum; }"},
    };

    private static int wrong = 0;

    public static void main(String[] args) throws IOException {
        List<String> found = breachesOf(Files.readString(FILE));
        for (String breach : found) {
            wrong++;
            System.out.println(FILE + " breaks rule " + breach);
        }
        for (String[] breach : BREACHES) {
            String file = "public final class EchoLine {\npublic EchoLine() { }\n"
                    + "public long digest() { return 0; }\n" + breach[1] + "\n}\n";
            List<String> seen = breachesOf(file);
            if (seen.isEmpty() || !seen.stream().allMatch(one -> one.startsWith(breach[0] + ":"))) {
                wrong++;
                System.out.println("a breach of rule " + breach[0] + " is seen as " + seen + ": " + breach[1]);
            }
        }
        System.out.println("LanguageTest: " + BREACHES.length + " breaches tried, " + wrong + " wrong");
        if (wrong != 0) {
            System.exit(1);
        }
    }

    private static List<String> breachesOf(String text) throws IOException {
        URI name = URI.create("string:///EchoLine.java");
        JavaFileObject file = new SimpleJavaFileObject(name, JavaFileObject.Kind.SOURCE) {
            @Override
            public CharSequence getCharContent(boolean ignoreEncodingErrors) {
                return text;
            }
        };
        List<String> breaches = new ArrayList<>();
        JavacTask task = (JavacTask) ToolProvider.getSystemJavaCompiler().getTask(null, null,
                problem -> breaches.add("0: " + problem), List.of("-proc:none"), null, List.of(file));
        CompilationUnitTree unit = task.parse().iterator().next();
        task.analyze();
        if (unit.getTypeDecls().size() != 1) {
            breaches.add("1: not one class in the file");
        }
        Reader reader = new Reader(Trees.instance(task), unit, breaches);
        reader.scan(unit, null);
        reader.lookAtCalls();
        return breaches;
    }

    private static final class Reader extends TreePathScanner<Void, Void> {
        private final Trees trees;
        private final CompilationUnitTree unit;
        private final List<String> breaches;
        private final Map<Element, Set<Element>> calls = new HashMap<>();
        private Element method = null;
        private int classes = 0;
        private int loops = 0;

        Reader(Trees trees, CompilationUnitTree unit, List<String> breaches) {
            this.trees = trees;
            this.unit = unit;
            this.breaches = breaches;
        }

        private void must(boolean holds, int rule, Tree where, String otherwise) {
            if (!holds) {
                long line = unit.getLineMap().getLineNumber(trees.getSourcePositions().getStartPosition(unit, where));
                breaches.add(rule + ": " + otherwise + " in line " + line);
            }
        }

        private Element element(Tree tree) {
            return trees.getElement(trees.getPath(unit, tree));
        }

        private TypeMirror type(Tree tree) {
            return trees.getTypeMirror(trees.getPath(unit, tree));
        }

        @Override
        public Void scan(Tree tree, Void nothing) {
            if (tree != null && LEFT_OUT.contains(tree.getKind())) {
                must(false, ruleOf(tree.getKind()), tree, tree.getKind() + " stands");
            }
            return super.scan(tree, nothing);
        }

        private static int ruleOf(Tree.Kind kind) {
            switch (kind) {
                case IMPORT:
                case PACKAGE:
                case ANNOTATION:
                    return 1;
                case LAMBDA_EXPRESSION:
                case MEMBER_REFERENCE:
                    return 2;
                case WHILE_LOOP:
                case DO_WHILE_LOOP:
                    return 9;
                default:
                    return 6;
            }
        }

        @Override
        public Void visitClass(ClassTree tree, Void nothing) {
            Element self = element(tree);
            boolean outermost = self.getEnclosingElement().getKind() == ElementKind.PACKAGE;
            Set<Modifier> modifiers = self.getModifiers();
            classes++;
            must(classes <= MOST_CLASSES, 11, tree, "too many classes");
            if (outermost) {
                must(modifiers.equals(EnumSet.of(Modifier.PUBLIC, Modifier.FINAL)),
                        1, tree, "class not public and final");
            } else {
                must(modifiers.contains(Modifier.STATIC) && self.getEnclosingElement().getKind().isClass()
                        && !modifiers.contains(Modifier.PUBLIC) && !modifiers.contains(Modifier.PROTECTED),
                        2, tree, "class " + tree.getSimpleName());
            }
            int fields = 0;
            for (Tree member : tree.getMembers()) {
                if (member instanceof VariableTree && !element(member).getModifiers().contains(Modifier.STATIC)) {
                    fields++;
                }
                must(!(member instanceof BlockTree), 5, member, "a block of initialisers");
            }
            must(fields <= MOST_FIELDS, 11, tree, "too many fields");
            return super.visitClass(tree, nothing);
        }

        @Override
        public Void visitVariable(VariableTree tree, Void nothing) {
            Element self = element(tree);
            boolean shared = self.getModifiers().contains(Modifier.STATIC);
            if (self.getKind() != ElementKind.EXCEPTION_PARAMETER && !isLambda(tree)) {
                must(isAllowed(self.asType()) || LEFT_OUT.contains(getCurrentPath().getLeaf().getKind()),
                        3, tree, "type " + self.asType());
            }
            if (self.getKind() == ElementKind.FIELD && isOfFace(self)) {
                must(self.getSimpleName().contentEquals("NONE") || self.getModifiers().contains(Modifier.PRIVATE),
                        1, tree, "field " + tree.getName());
            }
            if (shared) {
                must(self.getModifiers().contains(Modifier.FINAL), 5, tree, "not final: " + tree.getName());
                must(isConstant(self.asType()), 5, tree, "static " + self.asType());
                must(!(tree.getInitializer() instanceof NewArrayTree)
                        || ((NewArrayTree) tree.getInitializer()).getInitializers() != null,
                        5, tree, "a static row that is not written out");
            }
            return super.visitVariable(tree, nothing);
        }

        private boolean isLambda(VariableTree tree) {
            return tree.getInitializer() != null && LEFT_OUT.contains(tree.getInitializer().getKind());
        }

        private static boolean isOfFace(Element member) {
            return member.getEnclosingElement().getSimpleName().contentEquals("EchoLine");
        }

        private static boolean isOwn(Element element) {
            Element outermost = element;
            while (outermost != null && !outermost.getSimpleName().contentEquals("EchoLine")) {
                outermost = outermost.getEnclosingElement();
            }
            return outermost != null;
        }

        private static boolean isNamed(TypeMirror type, String... names) {
            return List.of(names).contains(type.toString());
        }

        private static boolean isOwnClass(TypeMirror type) {
            return type.getKind() == TypeKind.DECLARED && type.toString().startsWith("EchoLine");
        }

        private static boolean isAllowed(TypeMirror type) {
            if (type.getKind() == TypeKind.ARRAY) {
                TypeMirror of = ((ArrayType) type).getComponentType();
                if (of.getKind() == TypeKind.ARRAY) {
                    return NUMBERS.contains(((ArrayType) of).getComponentType().getKind());
                }
                return of.getKind().isPrimitive() || isOwnClass(of);
            }
            return type.getKind().isPrimitive() || isOwnClass(type)
                    || isNamed(type, "java.lang.String", "java.lang.StringBuilder");
        }

        private static boolean isConstant(TypeMirror type) {
            if (type.getKind() == TypeKind.ARRAY) {
                return STATIC_ROWS.contains(((ArrayType) type).getComponentType().getKind());
            }
            return STATIC_VALUES.contains(type.getKind()) || isNamed(type, "java.lang.String");
        }

        @Override
        public Void visitMethod(MethodTree tree, Void nothing) {
            Element self = element(tree);
            method = self;
            calls.put(self, new HashSet<>());
            must(tree.getParameters().size() <= MOST_PARAMETERS, 11, tree, "too many parameters");
            long start = trees.getSourcePositions().getStartPosition(unit, tree);
            long end = trees.getSourcePositions().getEndPosition(unit, tree);
            long lines = unit.getLineMap().getLineNumber(end) - unit.getLineMap().getLineNumber(start) + 1;
            must(lines <= MOST_LINES, 11, tree, lines + " lines");
            if (isOfFace(self) && self.getModifiers().contains(Modifier.PRIVATE)) {
                for (Element other : self.getEnclosingElement().getEnclosedElements()) {
                    boolean alike = other.getSimpleName().equals(self.getSimpleName());
                    must(!alike || !other.getModifiers().contains(Modifier.PUBLIC),
                            1, tree, "the name " + tree.getName());
                }
            }
            must(!List.of("equals", "hashCode", "toString").contains(tree.getName().toString()),
                    6, tree, "own " + tree.getName());
            TypeMirror answer = ((ExecutableElement) self).getReturnType();
            must(answer.getKind() == TypeKind.VOID || isAllowed(answer), 3, tree, "answer " + answer);
            super.visitMethod(tree, nothing);
            method = null;
            return null;
        }

        @Override
        public Void visitMethodInvocation(MethodInvocationTree tree, Void nothing) {
            Element called = element(tree);
            if (isOwn(called)) {
                if (method != null) {
                    calls.get(method).add(called);
                }
                must(method == null || method.getKind() != ElementKind.CONSTRUCTOR, 12, tree, "a constructor calls");
            } else if (called.getKind() != ElementKind.CONSTRUCTOR) {
                String name = called.getEnclosingElement().getSimpleName() + "." + called.getSimpleName();
                must(CALLS.contains(name), 4, tree, name);
            }
            return super.visitMethodInvocation(tree, nothing);
        }

        @Override
        public Void visitIdentifier(IdentifierTree tree, Void nothing) {
            boolean handedOut = tree.getName().contentEquals("this") && method != null
                    && method.getKind() == ElementKind.CONSTRUCTOR
                    && getCurrentPath().getParentPath().getLeaf().getKind() != Tree.Kind.MEMBER_SELECT;
            must(!handedOut, 12, tree, "a constructor hands out its object");
            return super.visitIdentifier(tree, nothing);
        }

        @Override
        public Void visitThrow(ThrowTree tree, Void nothing) {
            ExpressionTree thrown = tree.getExpression();
            must(thrown instanceof NewClassTree, 6, tree, "throw of no new one");
            if (thrown instanceof NewClassTree) {
                NewClassTree made = (NewClassTree) thrown;
                must(EXCEPTIONS.contains(made.getIdentifier().toString()), 6, tree, "throw of " + made.getIdentifier());
                must(made.getArguments().stream().allMatch(text -> text.getKind() == Tree.Kind.STRING_LITERAL),
                        6, tree, "a text that is not written out");
            }
            must(method.getKind() != ElementKind.CONSTRUCTOR, 6, tree, "throw in a constructor");
            return super.visitThrow(tree, nothing);
        }

        @Override
        public Void visitNewClass(NewClassTree tree, Void nothing) {
            boolean thrown = getCurrentPath().getParentPath().getLeaf().getKind() == Tree.Kind.THROW;
            must(thrown || isOwnClass(type(tree)) || isNamed(type(tree), "java.lang.StringBuilder"),
                    4, tree, "new " + type(tree));
            must(thrown || loops == 0, 12, tree, "new in a loop");
            return super.visitNewClass(tree, nothing);
        }

        @Override
        public Void visitNewArray(NewArrayTree tree, Void nothing) {
            must(loops == 0, 12, tree, "new in a loop");
            return super.visitNewArray(tree, nothing);
        }

        @Override
        public Void visitBinary(BinaryTree tree, Void nothing) {
            TypeMirror left = type(tree.getLeftOperand());
            TypeMirror right = type(tree.getRightOperand());
            if (isFraction(left) || isFraction(right)) {
                must(OF_FRACTIONS.contains(tree.getKind()), 3, tree, tree.getKind() + " of fractions");
            }
            boolean text = isNamed(left, "java.lang.String") || isNamed(right, "java.lang.String");
            must(!text || tree.getKind() != Tree.Kind.PLUS, 10, tree, "texts joined by +");
            must(!isNamed(left, "java.lang.String") || !isNamed(right, "java.lang.String")
                    || tree.getKind() == Tree.Kind.PLUS, 6, tree, "texts compared by " + tree.getKind());
            return super.visitBinary(tree, nothing);
        }

        private static boolean isFraction(TypeMirror type) {
            return type.getKind() == TypeKind.DOUBLE || type.getKind() == TypeKind.FLOAT;
        }

        @Override
        public Void visitTypeCast(TypeCastTree tree, Void nothing) {
            must(type(tree).getKind().isPrimitive(), 6, tree, "cast to " + type(tree));
            return super.visitTypeCast(tree, nothing);
        }

        @Override
        public Void visitLiteral(LiteralTree tree, Void nothing) {
            if (tree.getValue() instanceof String || tree.getValue() instanceof Character) {
                must(tree.getValue().toString().chars().allMatch(sign -> sign >= 1 && sign <= 127),
                        4, tree, "a sign outside 1 to 127");
            }
            return super.visitLiteral(tree, nothing);
        }

        @Override
        public Void visitAssignment(AssignmentTree tree, Void nothing) {
            rowStays(tree.getVariable());
            return super.visitAssignment(tree, nothing);
        }

        @Override
        public Void visitCompoundAssignment(CompoundAssignmentTree tree, Void nothing) {
            rowStays(tree.getVariable());
            boolean fraction = isFraction(type(tree.getVariable())) || isFraction(type(tree.getExpression()));
            must(!fraction || tree.getKind() != Tree.Kind.REMAINDER_ASSIGNMENT, 3, tree, "remainder of fractions");
            return super.visitCompoundAssignment(tree, nothing);
        }

        private void rowStays(ExpressionTree changed) {
            if (changed.getKind() == Tree.Kind.ARRAY_ACCESS) {
                Element row = element(((ArrayAccessTree) changed).getExpression());
                must(row == null || !row.getModifiers().contains(Modifier.STATIC),
                        5, changed, "a static row is changed");
            }
        }

        @Override
        public Void visitForLoop(ForLoopTree tree, Void nothing) {
            must(hasSeenEnd(tree), 9, tree, "the end of a loop cannot be seen");
            loops++;
            super.visitForLoop(tree, nothing);
            loops--;
            return null;
        }

        @Override
        public Void visitEnhancedForLoop(EnhancedForLoopTree tree, Void nothing) {
            loops++;
            super.visitEnhancedForLoop(tree, nothing);
            loops--;
            return null;
        }

        /** One counter, which goes one way against a bound that always binds, and is left alone inside. */
        private boolean hasSeenEnd(ForLoopTree tree) {
            if (tree.getInitializer().size() != 1 || !(tree.getInitializer().get(0) instanceof VariableTree)
                    || tree.getUpdate().size() != 1 || tree.getCondition() == null) {
                return false;
            }
            Element counter = element(tree.getInitializer().get(0));
            ExpressionTree step = tree.getUpdate().get(0).getExpression();
            boolean up = step.getKind() == Tree.Kind.POSTFIX_INCREMENT;
            boolean down = step.getKind() == Tree.Kind.POSTFIX_DECREMENT;
            if (!up && !down || element(((UnaryTree) step).getExpression()) != counter) {
                return false;
            }
            return isBound(tree.getCondition(), counter, up) && !changes(tree.getStatement(), counter);
        }

        private boolean isBound(ExpressionTree condition, Element counter, boolean up) {
            ExpressionTree bare = condition;
            while (bare instanceof ParenthesizedTree) {
                bare = ((ParenthesizedTree) bare).getExpression();
            }
            if (!(bare instanceof BinaryTree)) {
                return false;
            }
            BinaryTree pair = (BinaryTree) bare;
            if (pair.getKind() == Tree.Kind.CONDITIONAL_AND) {
                return isBound(pair.getLeftOperand(), counter, up) || isBound(pair.getRightOperand(), counter, up);
            }
            boolean below = pair.getKind() == Tree.Kind.LESS_THAN || pair.getKind() == Tree.Kind.LESS_THAN_EQUAL;
            return BOUNDS.contains(pair.getKind()) && below == up
                    && pair.getLeftOperand() instanceof IdentifierTree && element(pair.getLeftOperand()) == counter;
        }

        private boolean changes(StatementTree body, Element counter) {
            boolean[] changed = {false};
            new TreePathScanner<Void, Void>() {
                @Override
                public Void visitAssignment(AssignmentTree tree, Void nothing) {
                    changed[0] |= element(tree.getVariable()) == counter;
                    return super.visitAssignment(tree, nothing);
                }

                @Override
                public Void visitCompoundAssignment(CompoundAssignmentTree tree, Void nothing) {
                    changed[0] |= element(tree.getVariable()) == counter;
                    return super.visitCompoundAssignment(tree, nothing);
                }

                @Override
                public Void visitUnary(UnaryTree tree, Void nothing) {
                    boolean step = tree.getKind().name().endsWith("CREMENT");
                    changed[0] |= step && element(tree.getExpression()) == counter;
                    return super.visitUnary(tree, nothing);
                }
            }.scan(trees.getPath(unit, body), null);
            return changed[0];
        }

        /** No method comes back to itself, and no row of open calls is longer than the rule says. */
        void lookAtCalls() {
            for (Element start : calls.keySet()) {
                if (comesTo(start, start, new HashSet<>())) {
                    breaches.add("8: " + start + " comes back to itself");
                    return;
                }
            }
            for (Element start : calls.keySet()) {
                if (depth(start) > DEEPEST_CALLS) {
                    breaches.add("11: calls " + depth(start) + " deep from " + start);
                }
            }
        }

        private boolean comesTo(Element from, Element target, Set<Element> seen) {
            for (Element next : calls.getOrDefault(from, Set.of())) {
                if (next.equals(target) || seen.add(next) && comesTo(next, target, seen)) {
                    return true;
                }
            }
            return false;
        }

        private int depth(Element from) {
            int deepest = 0;
            for (Element next : calls.getOrDefault(from, Set.of())) {
                deepest = Math.max(deepest, depth(next));
            }
            return deepest + 1;
        }
    }
}
