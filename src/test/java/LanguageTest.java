import com.sun.source.tree.AssertTree;
import com.sun.source.tree.BinaryTree;
import com.sun.source.tree.ClassTree;
import com.sun.source.tree.CompilationUnitTree;
import com.sun.source.tree.ImportTree;
import com.sun.source.tree.LambdaExpressionTree;
import com.sun.source.tree.MemberReferenceTree;
import com.sun.source.tree.MemberSelectTree;
import com.sun.source.tree.MethodInvocationTree;
import com.sun.source.tree.MethodTree;
import com.sun.source.tree.SynchronizedTree;
import com.sun.source.tree.Tree;
import com.sun.source.tree.TryTree;
import com.sun.source.tree.VariableTree;
import com.sun.source.util.JavacTask;
import com.sun.source.util.TreePath;
import com.sun.source.util.TreePathScanner;
import com.sun.source.util.Trees;
import java.io.File;
import java.lang.reflect.Constructor;
import java.lang.reflect.Field;
import java.lang.reflect.Method;
import java.lang.reflect.Modifier;
import java.util.ArrayList;
import java.util.Arrays;
import java.util.HashSet;
import java.util.LinkedHashMap;
import java.util.LinkedHashSet;
import java.util.List;
import java.util.Map;
import java.util.Set;
import java.util.stream.Collectors;
import javax.lang.model.element.Element;
import javax.lang.model.element.ExecutableElement;
import javax.lang.model.element.TypeElement;
import javax.tools.JavaCompiler;
import javax.tools.StandardJavaFileManager;
import javax.tools.ToolProvider;

/** The face that the document asks for, and those rules of LANGUAGE.md that can be seen from the source. */
public final class LanguageTest {
    private static final String INDEX = " IndexOutOfBoundsException";
    private static final String ARGUMENT = " IllegalArgumentException";
    private static final String STATE = " IllegalStateException";
    private static final Set<String> FACE = Set.of(
            "int add(int,int)" + ARGUMENT + STATE, "int span(int,int,int)" + INDEX + ARGUMENT,
            "int live(int,int,int)" + INDEX + ARGUMENT, "int lift(int,int)" + INDEX + ARGUMENT + STATE,
            "int turn(int,int,int)" + INDEX + ARGUMENT + STATE, "int remove(int)" + INDEX, "int prune()",
            "int go(int)" + ARGUMENT, "int append(int)" + ARGUMENT + STATE, "int clearBuffer()", "int firstError()",
            "int addAll()" + ARGUMENT + STATE, "int undo()" + STATE, "int line(int,int)" + INDEX + ARGUMENT,
            "int lowest(int,int)" + ARGUMENT, "int value(int)" + ARGUMENT + STATE, "int ranked(int,int)" + ARGUMENT,
            "int node(int,int)" + INDEX + ARGUMENT, "int row(int,int)" + ARGUMENT, "int sum(int,int)" + ARGUMENT,
            "int count(int)" + ARGUMENT, "int ifAdded(int,int)" + ARGUMENT, "int highest(int)" + ARGUMENT,
            "int worth(int)" + INDEX, "int changesAt(int)" + ARGUMENT, "int meet(int,int)" + INDEX + ARGUMENT,
            "double mean()", "long digest()");
    private static final Set<String> IMPORTS = Set.of("java.util.Arrays", "java.util.ArrayList", "java.util.List",
            "java.util.Iterator", "java.util.NoSuchElementException");
    private static final Set<String> LIBRARY = Set.of("java.lang.String", "java.lang.StringBuilder",
            "java.util.ArrayList", "java.util.List", "java.lang.Integer", "java.lang.Long", "java.lang.Math",
            "java.util.Iterator", "java.lang.Iterable", "java.lang.Comparable");

    private LanguageTest() {
    }

    public static void main(String[] args) throws Exception {
        checkFace();
        checkNested();
        checkSource(new File(args[0]));
        Checks.end();
    }

    // ---- rule 1

    private static void checkFace() {
        Checks.same("rule 1: the class", Modifier.toString(LineLives.class.getModifiers()), "public final");
        Set<String> methods = new HashSet<>();
        for (Method method : LineLives.class.getDeclaredMethods()) {
            if (!Modifier.isPrivate(method.getModifiers())) {
                methods.add(method.getReturnType() + " " + method.getName() + Arrays.stream(method.getParameterTypes())
                        .map(Class::getName).collect(Collectors.joining(",", "(", ")"))
                        + Arrays.stream(method.getExceptionTypes()).map(e -> " " + e.getSimpleName())
                        .collect(Collectors.joining()));
                Checks.same("rule 1: " + method, Modifier.toString(method.getModifiers()), "public");
            }
        }
        Checks.same("rule 1: the methods", methods, FACE);
        for (Field field : LineLives.class.getDeclaredFields()) {
            String due = field.getName().equals("NONE") ? "public static final" : "private";
            Checks.same("rule 1: " + field, Modifier.toString(field.getModifiers()).startsWith(due), true);
        }
        Constructor<?>[] constructors = LineLives.class.getDeclaredConstructors();
        Checks.same("rule 1: one constructor", constructors.length, 1);
        Checks.same("rule 1: the constructor", constructors[0].toString(), "public LineLives()");
    }

    private static void checkNested() {
        for (Class<?> nested : LineLives.class.getDeclaredClasses()) {
            Checks.same("rule 1: " + nested, Modifier.isStatic(nested.getModifiers())
                    && !Modifier.isPublic(nested.getModifiers()) && !Modifier.isProtected(nested.getModifiers()), true);
        }
        Checks.same("rule 11: classes", LineLives.class.getDeclaredClasses().length <= 11, true);
    }

    // ---- the other rules

    private static void checkSource(File file) throws Exception {
        JavaCompiler compiler = ToolProvider.getSystemJavaCompiler();
        try (StandardJavaFileManager files = compiler.getStandardFileManager(null, null, null)) {
            JavacTask task = (JavacTask) compiler.getTask(null, files, null, List.of("-proc:none"), null,
                    files.getJavaFileObjects(file));
            Iterable<? extends CompilationUnitTree> units = task.parse();
            task.analyze();
            for (CompilationUnitTree unit : units) {
                Rules rules = new Rules(Trees.instance(task), unit);
                rules.scan(unit, null);
                rules.checkDepths();
            }
        }
    }

    private static final class Rules extends TreePathScanner<Void, Void> {
        private final Trees trees;
        private final CompilationUnitTree unit;
        private final Map<Element, Set<Element>> calls = new LinkedHashMap<>();
        private final Set<String> publicNames = FACE.stream()
                .map(method -> method.substring(method.indexOf(' ') + 1, method.indexOf('('))).collect(Collectors.toSet());
        private Element inside = null;

        Rules(Trees trees, CompilationUnitTree unit) {
            this.trees = trees;
            this.unit = unit;
        }

        private void need(String rule, boolean holds, Tree tree) {
            if (!holds) {
                long at = trees.getSourcePositions().getStartPosition(unit, tree);
                Checks.same(rule + ", at line " + unit.getLineMap().getLineNumber(at), false, true);
            }
        }

        private long lineOf(long position) {
            return unit.getLineMap().getLineNumber(position);
        }

        @Override
        public Void visitImport(ImportTree tree, Void v) {
            need("rule 4: import", IMPORTS.contains(tree.getQualifiedIdentifier().toString()), tree);
            return super.visitImport(tree, v);
        }

        @Override
        public Void visitClass(ClassTree tree, Void v) {
            long fields = tree.getMembers().stream().filter(m -> m instanceof VariableTree f
                    && !f.getModifiers().getFlags().contains(javax.lang.model.element.Modifier.STATIC)).count();
            need("rule 11: fields", fields <= 20, tree);
            return super.visitClass(tree, v);
        }

        @Override
        public Void visitVariable(VariableTree tree, Void v) {
            Set<javax.lang.model.element.Modifier> flags = tree.getModifiers().getFlags();
            need("rule 5: static fields are final", !flags.contains(javax.lang.model.element.Modifier.STATIC)
                    || flags.contains(javax.lang.model.element.Modifier.FINAL), tree);
            return super.visitVariable(tree, v);
        }

        @Override
        public Void visitMethod(MethodTree tree, Void v) {
            Element before = inside;
            inside = trees.getElement(getCurrentPath());
            calls.put(inside, new LinkedHashSet<>());
            long first = lineOf(trees.getSourcePositions().getStartPosition(unit, tree));
            long last = lineOf(trees.getSourcePositions().getEndPosition(unit, tree));
            need("rule 11: a short method", last - first < 60, tree);
            need("rule 11: parameters", tree.getParameters().size() <= 7, tree);
            String name = tree.getName().toString();
            need("rule 1: its name is a public one's", !publicNames.contains(name)
                    || inside.getEnclosingElement().getSimpleName().contentEquals("LineLives"), tree);
            need("rule 6: its name", !Set.of("equals", "hashCode", "toString").contains(name), tree);
            super.visitMethod(tree, v);
            inside = before;
            return null;
        }

        @Override
        public Void visitMethodInvocation(MethodInvocationTree tree, Void v) {
            Element called = trees.getElement(new TreePath(getCurrentPath(), tree.getMethodSelect()));
            if (called instanceof ExecutableElement && inside != null) {
                calls.get(inside).add(called);
                need("rule 4: call of " + called, isAllowed(called), tree);
            }
            return super.visitMethodInvocation(tree, v);
        }

        private boolean isAllowed(Element called) {
            Element owner = called.getEnclosingElement();
            String type = owner instanceof TypeElement t ? t.getQualifiedName().toString() : "";
            String name = called.getSimpleName().toString();
            return type.startsWith("LineLives") || name.equals("<init>")
                    || LIBRARY.contains(type) && !name.endsWith("Exact") || type.equals("java.lang.System")
                    && name.equals("arraycopy") || type.equals("java.util.Arrays")
                    && Set.of("copyOf", "copyOfRange", "fill").contains(name);
        }

        @Override
        public Void visitMemberSelect(MemberSelectTree tree, Void v) {
            need("rule 4: doubles", !tree.getExpression().toString().matches("Double|Float"), tree);
            return super.visitMemberSelect(tree, v);
        }

        @Override
        public Void visitLambdaExpression(LambdaExpressionTree tree, Void v) {
            need("rule 2: a lambda", false, tree);
            return super.visitLambdaExpression(tree, v);
        }

        @Override
        public Void visitMemberReference(MemberReferenceTree tree, Void v) {
            need("rule 2: a method reference", false, tree);
            return super.visitMemberReference(tree, v);
        }

        @Override
        public Void visitSynchronized(SynchronizedTree tree, Void v) {
            need("rule 6: synchronized", false, tree);
            return super.visitSynchronized(tree, v);
        }

        @Override
        public Void visitAssert(AssertTree tree, Void v) {
            need("rule 6: assert", false, tree);
            return super.visitAssert(tree, v);
        }

        @Override
        public Void visitTry(TryTree tree, Void v) {
            need("rule 6: finally or resources", tree.getFinallyBlock() == null && tree.getResources().isEmpty(), tree);
            return super.visitTry(tree, v);
        }

        @Override
        public Void visitBinary(BinaryTree tree, Void v) {
            need("rule 10: texts joined by +", tree.getKind() != Tree.Kind.PLUS
                    || !trees.getTypeMirror(getCurrentPath()).toString().equals("java.lang.String"), tree);
            return super.visitBinary(tree, v);
        }

        void checkDepths() {
            for (Element method : calls.keySet()) {
                List<Element> path = longestFrom(method, new ArrayList<>());
                Checks.same("rule 11: calls " + path, path.size() <= 8, true);
            }
        }

        /** The longest chain of calls; a method that calls itself counts once. */
        private List<Element> longestFrom(Element method, List<Element> open) {
            open.add(method);
            List<Element> longest = new ArrayList<>(open);
            for (Element called : calls.get(method)) {
                if (calls.containsKey(called) && !open.contains(called)) {
                    List<Element> path = longestFrom(called, open);
                    longest = path.size() > longest.size() ? path : longest;
                }
            }
            open.remove(open.size() - 1);
            return longest;
        }
    }
}
