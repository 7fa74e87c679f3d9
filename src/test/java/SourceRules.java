import com.sun.source.tree.AssertTree;
import com.sun.source.tree.BinaryTree;
import com.sun.source.tree.BlockTree;
import com.sun.source.tree.CatchTree;
import com.sun.source.tree.ClassTree;
import com.sun.source.tree.CompilationUnitTree;
import com.sun.source.tree.CompoundAssignmentTree;
import com.sun.source.tree.DoWhileLoopTree;
import com.sun.source.tree.ExpressionTree;
import com.sun.source.tree.ForLoopTree;
import com.sun.source.tree.IdentifierTree;
import com.sun.source.tree.ImportTree;
import com.sun.source.tree.LambdaExpressionTree;
import com.sun.source.tree.LiteralTree;
import com.sun.source.tree.MemberReferenceTree;
import com.sun.source.tree.MemberSelectTree;
import com.sun.source.tree.MethodInvocationTree;
import com.sun.source.tree.MethodTree;
import com.sun.source.tree.NewArrayTree;
import com.sun.source.tree.NewClassTree;
import com.sun.source.tree.SynchronizedTree;
import com.sun.source.tree.ThrowTree;
import com.sun.source.tree.Tree;
import com.sun.source.tree.TryTree;
import com.sun.source.tree.VariableTree;
import com.sun.source.tree.WhileLoopTree;
import com.sun.source.util.JavacTask;
import com.sun.source.util.TreePath;
import com.sun.source.util.TreePathScanner;
import com.sun.source.util.Trees;
import java.io.IOException;
import java.net.URI;
import java.util.ArrayList;
import java.util.LinkedHashMap;
import java.util.LinkedHashSet;
import java.util.List;
import java.util.Map;
import java.util.Set;
import javax.lang.model.element.Element;
import javax.lang.model.element.ElementKind;
import javax.lang.model.element.ExecutableElement;
import javax.lang.model.element.Modifier;
import javax.lang.model.element.TypeElement;
import javax.lang.model.element.VariableElement;
import javax.lang.model.type.ArrayType;
import javax.lang.model.type.DeclaredType;
import javax.lang.model.type.TypeKind;
import javax.lang.model.type.TypeMirror;
import javax.tools.Diagnostic;
import javax.tools.DiagnosticCollector;
import javax.tools.JavaCompiler;
import javax.tools.JavaFileObject;
import javax.tools.SimpleJavaFileObject;
import javax.tools.StandardJavaFileManager;
import javax.tools.ToolProvider;

/**
 * Tells where a source of LineLives breaks those rules of LANGUAGE.md that can be seen from it. Of loops (rule 9) and
 * of what calls make (rule 12) it takes less than the rules do, and just what LineLives needs.
 */
final class SourceRules extends TreePathScanner<Void, Void> {
    private static final Set<String> IMPORTS = Set.of("java.util.Arrays", "java.util.ArrayList", "java.util.List",
            "java.util.Iterator", "java.util.NoSuchElementException");
    private static final Map<String, Set<String>> LIBRARY = Map.of(
            "java.lang.String", Set.of("length", "charAt", "isEmpty", "equals", "indexOf", "substring", "toCharArray"),
            "java.lang.StringBuilder", Set.of("append", "charAt", "setCharAt", "setLength", "deleteCharAt", "reverse",
                    "length", "toString"),
            "java.util.ArrayList", Set.of("add", "get", "set", "remove", "size", "isEmpty", "clear"),
            "java.util.List", Set.of("add", "get", "set", "remove", "size", "isEmpty", "clear", "of"),
            "java.util.Iterator", Set.of("hasNext", "next"),
            "java.lang.Iterable", Set.of("iterator"),
            "java.lang.Comparable", Set.of("compareTo"),
            "java.lang.System", Set.of("arraycopy"),
            "java.util.Arrays", Set.of("copyOf", "copyOfRange", "fill"));
    private static final Set<String> OVER_WHOLE_NUMBERS = Set.of("java.lang.Integer", "java.lang.Long",
            "java.lang.Math");
    private static final Set<String> TYPES = Set.of("java.lang.String", "java.lang.StringBuilder", "java.lang.Integer",
            "java.util.ArrayList", "java.util.List", "java.util.Iterator", "java.lang.Iterable",
            "java.lang.Comparable");
    private static final Set<String> EXCEPTIONS = Set.of("IllegalStateException", "IllegalArgumentException",
            "IndexOutOfBoundsException", "ArithmeticException", "UnsupportedOperationException",
            "NoSuchElementException", "RuntimeException");

    private final Trees trees;
    private final CompilationUnitTree unit;
    private final Set<String> publicNames;
    private final Map<Element, Set<Element>> calls = new LinkedHashMap<>();
    private final List<String> breaches = new ArrayList<>();
    private Element inside = null;
    private boolean throwing = false;
    private boolean hasThrow = false;
    private boolean hasTry = false;

    private SourceRules(Trees trees, CompilationUnitTree unit, Set<String> publicNames) {
        this.trees = trees;
        this.unit = unit;
        this.publicNames = publicNames;
    }

    /** The broken rules, each with its line. */
    static List<String> breaches(String source, Set<String> publicNames) throws IOException {
        JavaCompiler compiler = ToolProvider.getSystemJavaCompiler();
        DiagnosticCollector<JavaFileObject> told = new DiagnosticCollector<>();
        List<String> breaches = new ArrayList<>();
        try (StandardJavaFileManager files = compiler.getStandardFileManager(told, null, null)) {
            JavacTask task = (JavacTask) compiler.getTask(null, files, told, List.of("-proc:none"), null,
                    List.of(new Source(source)));
            Iterable<? extends CompilationUnitTree> units = task.parse();
            task.analyze();
            for (CompilationUnitTree unit : units) {
                SourceRules rules = new SourceRules(Trees.instance(task), unit, publicNames);
                rules.scan(unit, null);
                rules.checkCalls();
                breaches.addAll(rules.breaches);
            }
        }
        for (Diagnostic<?> diagnostic : told.getDiagnostics()) {
            if (diagnostic.getKind() == Diagnostic.Kind.ERROR) {
                breaches.add("does not compile: " + diagnostic);
            }
        }
        return breaches;
    }

    private static final class Source extends SimpleJavaFileObject {
        private final String text;

        Source(String text) {
            super(URI.create("string:///LineLives.java"), Kind.SOURCE);
            this.text = text;
        }

        @Override
        public CharSequence getCharContent(boolean ignoreEncodingErrors) {
            return text;
        }
    }

    private void need(String rule, boolean holds, Tree tree) {
        if (!holds) {
            long at = trees.getSourcePositions().getStartPosition(unit, tree);
            breaches.add(rule + ", at line " + unit.getLineMap().getLineNumber(at));
        }
    }

    private boolean isInConstructor() {
        return inside != null && inside.getKind() == ElementKind.CONSTRUCTOR;
    }

    // ---- classes, methods, fields

    @Override
    public Void visitImport(ImportTree tree, Void v) {
        need("rule 4: import", IMPORTS.contains(tree.getQualifiedIdentifier().toString()), tree);
        return super.visitImport(tree, v);
    }

    @Override
    public Void visitClass(ClassTree tree, Void v) {
        need("rule 2: a local class", inside == null, tree);
        long fields = tree.getMembers().stream().filter(m -> m instanceof VariableTree f
                && !f.getModifiers().getFlags().contains(Modifier.STATIC)).count();
        need("rule 11: fields", fields <= 20, tree);
        return super.visitClass(tree, v);
    }

    @Override
    public Void visitBlock(BlockTree tree, Void v) {
        need("rule 5: a static initialiser", !tree.isStatic(), tree);
        return super.visitBlock(tree, v);
    }

    @Override
    public Void visitVariable(VariableTree tree, Void v) {
        Element variable = trees.getElement(getCurrentPath());
        if (variable.getKind() == ElementKind.EXCEPTION_PARAMETER) {
            need("rule 6: what is caught", EXCEPTIONS.contains(tree.getType().toString()), tree);
        } else {
            need("rule 3: a type", isAllowed(variable.asType()), tree);
        }
        if (variable.getKind() == ElementKind.FIELD && variable.getModifiers().contains(Modifier.STATIC)) {
            need("rule 5: a static field", variable.getModifiers().contains(Modifier.FINAL)
                    && (((VariableElement) variable).getConstantValue() != null || isWrittenOut(tree)), tree);
        }
        return super.visitVariable(tree, v);
    }

    private static boolean isWrittenOut(VariableTree tree) {
        return tree.getInitializer() instanceof NewArrayTree array && array.getInitializers() != null
                && tree.getType().toString().matches("(int|long|char|byte)\\[]");
    }

    private boolean isAllowed(TypeMirror type) {
        if (type instanceof ArrayType array) {
            TypeMirror parts = array.getComponentType();
            return parts instanceof ArrayType row ? row.getComponentType().getKind().isPrimitive()
                    && row.getComponentType().getKind() != TypeKind.BOOLEAN : parts.getKind().isPrimitive() || isOwn(parts);
        }
        return type.getKind().isPrimitive() || type.getKind() == TypeKind.TYPEVAR || isOwn(type)
                || type instanceof DeclaredType declared && TYPES.contains(nameOf(declared))
                && declared.getTypeArguments().stream().allMatch(a -> isOwn(a) || a.toString().equals("java.lang.Integer"));
    }

    private static boolean isOwn(TypeMirror type) {
        return type instanceof DeclaredType declared && nameOf(declared).matches("LineLives(\\..*)?");
    }

    private static String nameOf(DeclaredType type) {
        return ((TypeElement) type.asElement()).getQualifiedName().toString();
    }

    @Override
    public Void visitMethod(MethodTree tree, Void v) {
        inside = trees.getElement(getCurrentPath());
        hasThrow = false;
        hasTry = false;
        calls.put(inside, new LinkedHashSet<>());
        long first = lineOf(trees.getSourcePositions().getStartPosition(unit, tree));
        long last = lineOf(trees.getSourcePositions().getEndPosition(unit, tree));
        need("rule 11: a short method", last - first < 60, tree);
        need("rule 11: parameters", tree.getParameters().size() <= 7, tree);
        TypeMirror returned = ((ExecutableElement) inside).getReturnType();
        need("rule 3: a type", returned.getKind() == TypeKind.VOID || isAllowed(returned), tree);
        String name = tree.getName().toString();
        need("rule 1: its name is a public one's", !publicNames.contains(name)
                || inside.getModifiers().contains(Modifier.PUBLIC)
                && inside.getEnclosingElement().getSimpleName().contentEquals("LineLives"), tree);
        need("rule 6: its name", !Set.of("equals", "hashCode", "toString").contains(name), tree);
        super.visitMethod(tree, v);
        need("rule 6: a throw in a method that catches", !hasThrow || !hasTry, tree);
        inside = null;
        return null;
    }

    private long lineOf(long position) {
        return unit.getLineMap().getLineNumber(position);
    }

    // ---- calls, and what is made

    @Override
    public Void visitMethodInvocation(MethodInvocationTree tree, Void v) {
        Element called = trees.getElement(new TreePath(getCurrentPath(), tree.getMethodSelect()));
        if (called instanceof ExecutableElement method && inside != null) {
            calls.get(inside).add(called);
            need("rule 4: call of " + called, isOwnMethod(called) || isInLibrary(method), tree);
            need("rule 12: a constructor's call of " + called, !isInConstructor() || !isOwnMethod(called)
                    || !canBeOverridden(called), tree);
        }
        return super.visitMethodInvocation(tree, v);
    }

    private static boolean isOwnMethod(Element called) {
        return called.getSimpleName().contentEquals("<init>") || isOwn(called.getEnclosingElement().asType());
    }

    private static boolean canBeOverridden(Element method) {
        Set<Modifier> flags = method.getModifiers();
        return method.getKind() == ElementKind.METHOD && !flags.contains(Modifier.PRIVATE)
                && !flags.contains(Modifier.STATIC) && !flags.contains(Modifier.FINAL)
                && !method.getEnclosingElement().getModifiers().contains(Modifier.FINAL);
    }

    private static boolean isInLibrary(ExecutableElement called) {
        String name = called.getSimpleName().toString();
        String owner = called.getEnclosingElement().toString();
        // So the compiler calls the class of all arrays.
        if (owner.equals("Array")) {
            return name.equals("clone");
        }
        if (OVER_WHOLE_NUMBERS.contains(owner)) {
            return called.getModifiers().contains(Modifier.STATIC) && !name.endsWith("Exact")
                    && called.getParameters().stream().allMatch(p -> p.asType().getKind() == TypeKind.INT
                    || p.asType().getKind() == TypeKind.LONG);
        }
        return LIBRARY.getOrDefault(owner, Set.of()).contains(name);
    }

    @Override
    public Void visitMemberSelect(MemberSelectTree tree, Void v) {
        need("rule 4: doubles", !tree.getExpression().toString().matches("Double|Float"), tree);
        return super.visitMemberSelect(tree, v);
    }

    @Override
    public Void visitNewClass(NewClassTree tree, Void v) {
        need("rule 12: an object is made in a call", throwing || inside == null || isInConstructor(), tree);
        if (!throwing) {
            need("rule 3: a type", isAllowed(trees.getTypeMirror(getCurrentPath())), tree);
        }
        return super.visitNewClass(tree, v);
    }

    @Override
    public Void visitNewArray(NewArrayTree tree, Void v) {
        need("rule 12: an array is made in a call", inside == null || isInConstructor(), tree);
        return super.visitNewArray(tree, v);
    }

    @Override
    public Void visitIdentifier(IdentifierTree tree, Void v) {
        need("rule 12: a constructor hands out its object", !isInConstructor()
                || !tree.getName().contentEquals("this")
                || getCurrentPath().getParentPath().getLeaf() instanceof MemberSelectTree, tree);
        return super.visitIdentifier(tree, v);
    }

    @Override
    public Void visitLambdaExpression(LambdaExpressionTree tree, Void v) {
        need("rule 2: a lambda", false, tree);
        return super.visitLambdaExpression(tree, v);
    }

    @Override
    public Void visitMemberReference(MemberReferenceTree tree, Void v) {
        need("rule 2: a method reference", false, tree);
        return super.visitMemberReference(tree, v);
    }

    // ---- exceptions

    @Override
    public Void visitThrow(ThrowTree tree, Void v) {
        hasThrow = true;
        need("rule 6: a throw in a constructor", !isInConstructor(), tree);
        ExpressionTree thrown = tree.getExpression();
        need("rule 6: what is thrown", thrown instanceof NewClassTree made
                && EXCEPTIONS.contains(made.getIdentifier().toString()) && made.getClassBody() == null
                && made.getArguments().size() <= 1
                && made.getArguments().stream().allMatch(a -> a instanceof LiteralTree), tree);
        throwing = true;
        super.visitThrow(tree, v);
        throwing = false;
        return null;
    }

    @Override
    public Void visitTry(TryTree tree, Void v) {
        hasTry = true;
        need("rule 6: finally or resources", tree.getFinallyBlock() == null && tree.getResources().isEmpty(), tree);
        return super.visitTry(tree, v);
    }

    @Override
    public Void visitCatch(CatchTree tree, Void v) {
        String name = tree.getParameter().getName().toString();
        boolean[] used = {false};
        new TreePathScanner<Void, Void>() {
            @Override
            public Void visitIdentifier(IdentifierTree identifier, Void w) {
                used[0] |= identifier.getName().contentEquals(name);
                return null;
            }
        }.scan(new TreePath(getCurrentPath(), tree.getBlock()), null);
        need("rule 6: a catch uses the exception", !used[0], tree);
        return super.visitCatch(tree, v);
    }

    @Override
    public Void visitSynchronized(SynchronizedTree tree, Void v) {
        need("rule 6: synchronized", false, tree);
        return super.visitSynchronized(tree, v);
    }

    @Override
    public Void visitAssert(AssertTree tree, Void v) {
        need("rule 6: assert", false, tree);
        return super.visitAssert(tree, v);
    }

    // ---- loops and operators

    @Override
    public Void visitWhileLoop(WhileLoopTree tree, Void v) {
        need("rule 9: a loop without a counter", false, tree);
        return super.visitWhileLoop(tree, v);
    }

    @Override
    public Void visitDoWhileLoop(DoWhileLoopTree tree, Void v) {
        need("rule 9: a loop without a counter", false, tree);
        return super.visitDoWhileLoop(tree, v);
    }

    @Override
    public Void visitForLoop(ForLoopTree tree, Void v) {
        String condition = String.valueOf(tree.getCondition());
        boolean counts = tree.getUpdate().size() == 1 && tree.getUpdate().stream().allMatch(update ->
                condition.matches(".*\\b" + update.toString().replaceAll("\\W.*", "") + " [<>].*"));
        need("rule 9: a loop without a counter", counts, tree);
        return super.visitForLoop(tree, v);
    }

    @Override
    public Void visitBinary(BinaryTree tree, Void v) {
        String type = trees.getTypeMirror(getCurrentPath()).toString();
        need("rule 10: texts joined by +", tree.getKind() != Tree.Kind.PLUS || !type.equals("java.lang.String"), tree);
        need("rule 3: the rest of a double", tree.getKind() != Tree.Kind.REMAINDER
                || !type.matches("double|float"), tree);
        if (tree.getKind() == Tree.Kind.EQUAL_TO || tree.getKind() == Tree.Kind.NOT_EQUAL_TO) {
            need("rule 6: == of texts or Integers", !isBoxOrText(tree.getLeftOperand())
                    || !isBoxOrText(tree.getRightOperand()), tree);
        }
        return super.visitBinary(tree, v);
    }

    private boolean isBoxOrText(ExpressionTree tree) {
        return trees.getTypeMirror(new TreePath(getCurrentPath(), tree)).toString()
                .matches("java\\.lang\\.(String|Integer)");
    }

    @Override
    public Void visitCompoundAssignment(CompoundAssignmentTree tree, Void v) {
        need("rule 10: texts joined by +", !trees.getTypeMirror(getCurrentPath()).toString()
                .equals("java.lang.String"), tree);
        return super.visitCompoundAssignment(tree, v);
    }

    @Override
    public Void visitLiteral(LiteralTree tree, Void v) {
        if (tree.getValue() instanceof String text) {
            need("rule 4: a sign of a text", text.chars().allMatch(sign -> sign >= 1 && sign <= 127), tree);
        }
        return super.visitLiteral(tree, v);
    }

    // ---- chains of calls

    private void checkCalls() {
        for (Element method : calls.keySet()) {
            List<Element> path = longestFrom(method, new ArrayList<>());
            if (path.size() > 8) {
                breaches.add("rule 11: calls " + path);
            }
            if (reached(method).contains(method) && !method.getModifiers().contains(Modifier.PRIVATE)) {
                breaches.add("rule 8: a recursion that is not private: " + method);
            }
        }
    }

    /** The longest chain of calls; a method that calls itself counts once. */
    private List<Element> longestFrom(Element method, List<Element> open) {
        open.add(method);
        List<Element> longest = new ArrayList<>(open);
        for (Element called : calls.get(method)) {
            if (calls.containsKey(called) && !open.contains(called)) {
                List<Element> path = longestFrom(called, open);
                longest = path.size() > longest.size() ? path : longest;
            }
        }
        open.remove(open.size() - 1);
        return longest;
    }

    /** The methods that a method calls, and those that these call, and so on. */
    private Set<Element> reached(Element method) {
        Set<Element> reached = new LinkedHashSet<>();
        List<Element> open = new ArrayList<>(List.of(method));
        while (!open.isEmpty()) {
            for (Element called : calls.getOrDefault(open.remove(open.size() - 1), Set.of())) {
                if (reached.add(called)) {
                    open.add(called);
                }
            }
        }
        return reached;
    }
}
