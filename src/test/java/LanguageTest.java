import com.sun.source.tree.AssertTree;
import com.sun.source.tree.BinaryTree;
import com.sun.source.tree.ClassTree;
import com.sun.source.tree.CompilationUnitTree;
import com.sun.source.tree.LambdaExpressionTree;
import com.sun.source.tree.LiteralTree;
import com.sun.source.tree.MemberReferenceTree;
import com.sun.source.tree.MethodInvocationTree;
import com.sun.source.tree.MethodTree;
import com.sun.source.tree.NewArrayTree;
import com.sun.source.tree.NewClassTree;
import com.sun.source.tree.SynchronizedTree;
import com.sun.source.tree.ThrowTree;
import com.sun.source.tree.Tree;
import com.sun.source.tree.TryTree;
import com.sun.source.tree.TypeCastTree;
import com.sun.source.tree.VariableTree;
import com.sun.source.tree.WhileLoopTree;
import com.sun.source.util.JavacTask;
import com.sun.source.util.TreePathScanner;
import com.sun.source.util.Trees;
import java.io.File;
import java.lang.reflect.Field;
import java.lang.reflect.Member;
import java.lang.reflect.Method;
import java.lang.reflect.Modifier;
import java.nio.file.Files;
import java.nio.file.Path;
import java.util.Arrays;
import java.util.HashMap;
import java.util.HashSet;
import java.util.List;
import java.util.Map;
import java.util.Set;
import java.util.TreeSet;
import javax.lang.model.element.Element;
import javax.lang.model.element.ElementKind;
import javax.lang.model.element.ExecutableElement;
import javax.tools.JavaCompiler;
import javax.tools.StandardJavaFileManager;
import javax.tools.ToolProvider;

/** The rules of LANGUAGE.md as far as a machine can look them up in the source, and the document's face. */
public final class LanguageTest {
    private static final String SOURCE = "src/main/java/TicketHall.java";
    private static final Set<String> LIBRARY = Set.of("java.util.Arrays.fill", "java.lang.System.arraycopy",
            "java.lang.Math.max", "java.lang.Math.min", "java.lang.Math.abs", "java.lang.Object.<init>");
    private static final String[] FACE = {"int currency()", "int ticket(int,int)", "int client(int,int)",
        "int amount(int,int)", "int give(int,int)", "int back(int,int)", "int waits(int,int)", "int row(int,int,int)",
        "int of(int,int)", "int card(int,int)", "long worth(int,int)", "int needs(int,int)", "int order()",
        "int feed(int)", "int fund()", "int draw(int,int)", "int stride(int)", "int told(int)", "int on(int,int,int)",
        "int by(int,int)", "long lag(int,int,int)", "int best(int,int)", "int see(int,int)", "int seeds()",
        "int can(int,int,int)", "long odds(int,int)", "long mean(int)", "int plan(int,int)", "int ends(int)",
        "int book(int,int)", "int looked()", "int judge(int,int)", "int image()", "int undo()", "int taken(int,int)",
        "int count(int)", "int tape(int,int,int)", "int item(int,int,long)", "long read(int,int)",
        "int shift(int,int,int,int,int)"};

    private final Due due = new Due("LanguageTest");
    private final Map<ExecutableElement, Set<ExecutableElement>> calls = new HashMap<>();

    private void face() {
        Set<String> methods = new TreeSet<>();
        for (Method m : TicketHall.class.getDeclaredMethods()) {
            if (!Modifier.isPrivate(m.getModifiers())) {
                due.holds(m + " is public and of objects", Modifier.toString(m.getModifiers()).equals("public"));
                String args = String.join(",", Arrays.stream(m.getParameterTypes()).map(Class::getName).toList());
                methods.add(m.getReturnType() + " " + m.getName() + "(" + args + ")");
            }
        }
        due.holds("the methods are the document's", methods.equals(new TreeSet<>(List.of(FACE))));
        Set<String> fields = new TreeSet<>();
        for (Field f : TicketHall.class.getDeclaredFields()) {
            if (!Modifier.isPrivate(f.getModifiers())) {
                due.holds(f + " is a constant", Modifier.toString(f.getModifiers()).equals("public static final"));
                fields.add(f.getType() + " " + f.getName());
            }
        }
        Set<String> constants = Set.of("int NONE", "int BAD", "int STATE", "int FULL", "long NO");
        due.holds("the constants are the document's", fields.equals(constants));
        due.is("constructors", TicketHall.class.getDeclaredConstructors().length, 1);
        due.holds("the class is final", Modifier.toString(TicketHall.class.getModifiers()).equals("public final"));
        due.holds("at most 12 classes", TicketHall.class.getDeclaredClasses().length + 1 <= 12);
        for (Class<?> inside : TicketHall.class.getDeclaredClasses()) {
            due.holds(inside + " is static", Modifier.isStatic(inside.getModifiers()));
            due.holds(inside + " is not public", !Modifier.isPublic(inside.getModifiers()));
            due.holds(inside + " has at most 20 fields",
                    Arrays.stream(inside.getDeclaredFields()).filter(f -> !isConstant(f)).count() <= 20);
        }
    }

    private static boolean isConstant(Member f) {
        return Modifier.isStatic(f.getModifiers()) && Modifier.isFinal(f.getModifiers());
    }

    private void signs() throws Exception {
        for (byte sign : Files.readAllBytes(Path.of(SOURCE))) {
            due.holds("sign " + sign + " is plain", sign == '\n' || sign >= 32 && sign < 127);
        }
    }

    private void source() throws Exception {
        JavaCompiler compiler = ToolProvider.getSystemJavaCompiler();
        try (StandardJavaFileManager files = compiler.getStandardFileManager(null, null, null)) {
            JavacTask task = (JavacTask) compiler.getTask(null, files, null, List.of("-proc:none"), null,
                    files.getJavaFileObjects(new File(SOURCE)));
            Iterable<? extends CompilationUnitTree> units = task.parse();
            task.analyze();
            for (CompilationUnitTree unit : units) {
                due.is("imports", unit.getImports().size(), 1);
                new Rules(Trees.instance(task), unit).scan(unit, null);
            }
        }
        for (ExecutableElement method : calls.keySet()) {
            int depth = depthOf(method, new HashSet<>());
            due.holds(method + " calls at most eight deep, itself never: " + depth, depth <= 8);
        }
    }

    private int depthOf(ExecutableElement method, Set<ExecutableElement> open) {
        if (!open.add(method)) {
            return 1000;
        }
        int deepest = 0;
        for (ExecutableElement callee : calls.getOrDefault(method, Set.of())) {
            deepest = Math.max(deepest, depthOf(callee, open));
        }
        open.remove(method);
        return deepest + 1;
    }

    /** Walks the source; what it meets must be what the rules leave. */
    private final class Rules extends TreePathScanner<Void, Void> {
        private final Trees trees;
        private final CompilationUnitTree unit;
        private final Set<String> publicNames = new HashSet<>();
        private ExecutableElement inside;

        Rules(Trees trees, CompilationUnitTree unit) {
            this.trees = trees;
            this.unit = unit;
            for (String method : FACE) {
                publicNames.add(method.substring(method.indexOf(' ') + 1, method.indexOf('(')));
            }
        }

        private long line(Tree tree, boolean end) {
            long place = end ? trees.getSourcePositions().getEndPosition(unit, tree)
                    : trees.getSourcePositions().getStartPosition(unit, tree);
            return unit.getLineMap().getLineNumber(place);
        }

        private void ruledOut(Tree tree) {
            due.holds("line " + line(tree, false) + " keeps to the rules: " + tree.getKind(), false);
        }

        @Override
        public Void visitMethod(MethodTree tree, Void none) {
            inside = (ExecutableElement) trees.getElement(getCurrentPath());
            calls.putIfAbsent(inside, new HashSet<>());
            String name = tree.getName().toString();
            due.holds(name + " is short", line(tree, true) - line(tree, false) < 60);
            due.holds(name + " has at most seven parameters", tree.getParameters().size() <= 7);
            boolean isPublic = tree.getModifiers().getFlags().contains(javax.lang.model.element.Modifier.PUBLIC);
            due.holds(name + " is no public one's name", isPublic || !publicNames.contains(name));
            due.holds(name + " is not Object's", !Set.of("equals", "hashCode", "toString").contains(name));
            Void found = super.visitMethod(tree, none);
            inside = null;
            return found;
        }

        @Override
        public Void visitMethodInvocation(MethodInvocationTree tree, Void none) {
            Element element = trees.getElement(getCurrentPath());
            if (element instanceof ExecutableElement callee) {
                String owner = callee.getEnclosingElement().toString();
                if (owner.startsWith("TicketHall")) {
                    calls.computeIfAbsent(inside, k -> new HashSet<>()).add(callee);
                } else {
                    String name = owner + "." + callee.getSimpleName();
                    due.holds(name + " is in the library that is left", LIBRARY.contains(name));
                }
            } else {
                ruledOut(tree);
            }
            return super.visitMethodInvocation(tree, none);
        }

        /** What a call makes is counted in the room, so constructors alone make objects here. */
        private void made(Tree tree) {
            due.holds("line " + line(tree, false) + " makes an object in a constructor",
                    inside == null || inside.getKind() == ElementKind.CONSTRUCTOR);
        }

        @Override
        public Void visitNewArray(NewArrayTree tree, Void none) {
            made(tree);
            return super.visitNewArray(tree, none);
        }

        @Override
        public Void visitNewClass(NewClassTree tree, Void none) {
            made(tree);
            return super.visitNewClass(tree, none);
        }

        @Override
        public Void visitBinary(BinaryTree tree, Void none) {
            if (tree.getKind() == Tree.Kind.DIVIDE || tree.getKind() == Tree.Kind.REMAINDER) {
                divided(tree);
            }
            return super.visitBinary(tree, none);
        }

        /** By a constant, or by a name that the same method has tested to be above 0. */
        private void divided(BinaryTree tree) {
            String below = tree.getRightOperand().toString();
            boolean plain = below.matches("[1-9][0-9]*|ROW_PARTS");
            String text = trees.getTree(inside).toString();
            boolean tested = text.contains(below + " > 0") || text.contains(below + " <= 0");
            due.holds("line " + line(tree, false) + " looks at its divisor", plain || tested);
        }

        @Override
        public Void visitLiteral(LiteralTree tree, Void none) {
            due.holds("no texts, no null", tree.getKind() != Tree.Kind.STRING_LITERAL);
            return super.visitLiteral(tree, none);
        }

        @Override
        public Void visitVariable(VariableTree tree, Void none) {
            Set<javax.lang.model.element.Modifier> flags = tree.getModifiers().getFlags();
            due.holds(tree.getName() + " is final if static", !flags.contains(javax.lang.model.element.Modifier.STATIC)
                    || flags.contains(javax.lang.model.element.Modifier.FINAL));
            return super.visitVariable(tree, none);
        }

        @Override
        public Void visitClass(ClassTree tree, Void none) {
            if (tree.getSimpleName().length() == 0) {
                ruledOut(tree);
            }
            return super.visitClass(tree, none);
        }

        @Override
        public Void visitTypeCast(TypeCastTree tree, Void none) {
            if (tree.getType().getKind() != Tree.Kind.PRIMITIVE_TYPE) {
                ruledOut(tree);
            }
            return super.visitTypeCast(tree, none);
        }

        @Override
        public Void visitThrow(ThrowTree tree, Void none) {
            ruledOut(tree);
            return null;
        }

        @Override
        public Void visitTry(TryTree tree, Void none) {
            ruledOut(tree);
            return null;
        }

        @Override
        public Void visitSynchronized(SynchronizedTree tree, Void none) {
            ruledOut(tree);
            return null;
        }

        @Override
        public Void visitAssert(AssertTree tree, Void none) {
            ruledOut(tree);
            return null;
        }

        @Override
        public Void visitLambdaExpression(LambdaExpressionTree tree, Void none) {
            ruledOut(tree);
            return null;
        }

        @Override
        public Void visitMemberReference(MemberReferenceTree tree, Void none) {
            ruledOut(tree);
            return null;
        }

        /** Loops count against a bound here; a while would hide it. */
        @Override
        public Void visitWhileLoop(WhileLoopTree tree, Void none) {
            ruledOut(tree);
            return null;
        }
    }

    public static void main(String[] args) throws Exception {
        LanguageTest test = new LanguageTest();
        test.face();
        test.signs();
        test.source();
        test.due.end();
    }
}
