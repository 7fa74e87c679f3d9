import java.io.IOException;
import java.lang.reflect.Constructor;
import java.lang.reflect.Field;
import java.lang.reflect.Method;
import java.lang.reflect.Modifier;
import java.nio.charset.StandardCharsets;
import java.nio.file.Files;
import java.nio.file.Path;
import java.util.Arrays;
import java.util.HashSet;
import java.util.List;
import java.util.Set;
import java.util.stream.Collectors;

/** The face that the document asks for, and those rules of LANGUAGE.md that can be seen from the source. */
public final class LanguageTest {
    private static final String INDEX = " IndexOutOfBoundsException";
    private static final String ARGUMENT = " IllegalArgumentException";
    private static final String STATE = " IllegalStateException";
    private static final Set<String> FACE = Set.of(
            "int add(int,int)" + ARGUMENT + STATE, "int span(int,int,int)" + INDEX + ARGUMENT,
            "int live(int,int,int)" + INDEX + ARGUMENT, "int lift(int,int)" + INDEX + ARGUMENT + STATE,
            "int turn(int,int,int)" + INDEX + ARGUMENT + STATE, "int remove(int)" + INDEX, "int prune()",
            "int go(int)" + ARGUMENT, "int append(int)" + ARGUMENT + STATE, "int clearBuffer()", "int firstError()",
            "int addAll()" + ARGUMENT + STATE, "int undo()" + STATE, "int line(int,int)" + INDEX + ARGUMENT,
            "int lowest(int,int)" + ARGUMENT, "int value(int)" + ARGUMENT + STATE, "int ranked(int,int)" + ARGUMENT,
            "int node(int,int)" + INDEX + ARGUMENT, "int row(int,int)" + ARGUMENT, "int sum(int,int)" + ARGUMENT,
            "int count(int)" + ARGUMENT, "int ifAdded(int,int)" + ARGUMENT, "int highest(int)" + ARGUMENT,
            "int worth(int)" + INDEX, "int changesAt(int)" + ARGUMENT, "int meet(int,int)" + INDEX + ARGUMENT,
            "double mean()", "long digest()");
    private static final Set<String> PUBLIC_NAMES = FACE.stream()
            .map(method -> method.substring(method.indexOf(' ') + 1, method.indexOf('('))).collect(Collectors.toSet());

    /** A rule, and a member of a class that breaks just this one. */
    private static final String[][] BROKEN = {
        {"rule 1: its name", "private int sum(int a) { return a; }"},
        {"rule 1: its name", "private static final class A { int sum(int a) { return a; } }"},
        {"rule 2: a local class", "private int a() { final class B { int b = 1; } return 1; }"},
        {"rule 2: a lambda", "private interface A { int f(int a); } private void a(A f) { } void b() { a(c -> c); }"},
        {"rule 2: a method reference",
            "private interface A { int f(int a); } private void a(A f) { } void b() { a(Math::abs); }"},
        {"rule 3: a type", "private Object a = null;"},
        {"rule 3: a type", "private java.util.Map<Integer, Integer> a = null;"},
        {"rule 3: a type", "private java.util.List<String> a = null;"},
        {"rule 3: a type", "private int[][][] a = null;"},
        {"rule 3: a type", "private boolean[][] a = null;"},
        {"rule 3: a type", "private String[] a = null;"},
        {"rule 3: a type", "private Integer[] a() { return null; }"},
        {"rule 3: the rest", "private double a(double b) { return b % 2.0; }"},
        {"rule 4: call of abs", "private double a(double b) { return Math.abs(b); }"},
        {"rule 4: call of addExact", "private int a(int b) { return Math.addExact(b, b); }"},
        {"rule 4: call of parseInt", "private int a(String b) { return Integer.parseInt(b); }"},
        {"rule 4: call of trim", "private String a(String b) { return b.trim(); }"},
        {"rule 4: call of nanoTime", "private long a() { return System.nanoTime(); }"},
        {"rule 4: doubles", "private double a() { return Double.NaN; }"},
        {"rule 4: a sign", "private String a() { return \"\u00e9\"; }"},
        {"rule 5: a static field", "private static int a = 1;"},
        {"rule 5: a static field", "private static final int[] A = new int[5];"},
        {"rule 5: a static initialiser", "static { }"},
        {"rule 6: what is thrown", "private void a() { throw new Error(\"b\"); }"},
        {"rule 6: what is thrown", "private void a(String b) { throw new RuntimeException(b); }"},
        {"rule 6: a throw in a constructor", "LineLives() { throw new RuntimeException(); }"},
        {"rule 6: a throw in a method that catches", "private void b() { } private void a(int c) { "
            + "if (c == 0) { throw new RuntimeException(); } try { b(); } catch (RuntimeException e) { return; } }"},
        {"rule 6: a catch uses", "private void b() { } private boolean a() { "
            + "try { b(); } catch (RuntimeException e) { return e == null; } return true; }"},
        {"rule 6: what is caught", "private void b() { } private void a() { "
            + "try { b(); } catch (NullPointerException e) { return; } }"},
        {"rule 6: finally", "private void b() { } private void a() { try { b(); } finally { b(); } }"},
        {"rule 6: synchronized", "private void a() { synchronized (this) { } }"},
        {"rule 6: assert", "private void a(int b) { assert b > 0; }"},
        {"rule 6: its name", "public int hashCode() { return 1; }"},
        {"rule 6: == of texts", "private boolean a(String b, String c) { return b == c; }"},
        {"rule 8: a recursion", "int a(int b) { return b <= 0 ? 0 : a(b - 1); }"},
        {"rule 8: a recursion", "private int a(int b) { return c(b); } int c(int b) { return b <= 0 ? 0 : a(b - 1); }"},
        {"rule 9: a loop", "private void a(int b) { while (b > 0) { b--; } }"},
        {"rule 9: a loop", "private void a(int b) { do { b--; } while (b > 0); }"},
        {"rule 9: a loop", "private void a(int b) { for (;;) { } }"},
        {"rule 9: a loop", "private void a(int b) { for (int c = 0; b < 5; c++) { } }"},
        {"rule 10: texts", "private String a(String b, int c) { return b + c; }"},
        {"rule 10: texts", "private String a(String b) { b += 1; return b; }"},
        {"rule 11: fields", "private int " + "abcdefghijklmnopqrstu".replaceAll("(.)(?=.)", "$1, ") + ";"},
        {"rule 11: parameters", "private void a(int b, int c, int d, int e, int f, int g, int h, int i) { }"},
        {"rule 11: a short method", "private void a() {" + "\n".repeat(60) + "}"},
        {"rule 11: calls", "void a() { b(); } void b() { c(); } void c() { d(); } void d() { e(); } void e() { f(); } "
            + "void f() { g(); } void g() { h(); } void h() { i(); } void i() { }"},
        {"rule 12: an object", "private static final class A { } private A a() { return new A(); }"},
        {"rule 12: an array", "private int[] a() { return new int[] {1}; }"},
        {"rule 12: a constructor hands out", "private static final class A { A(LineLives b) { } } "
            + "private A a; LineLives() { a = new A(this); }"},
        {"rule 12: a constructor's call", "private static class A { A() { a(); } void a() { } }"},
    };

    /** Members of a class that break no rule, and that are near to one. */
    private static final String[] KEPT = {
        "private static final int A = 5; private static final int[] B = {1, 2};",
        "private int[][] a = new int[3][4]; private boolean[] b = {true};",
        "private static final class A { } private java.util.ArrayList<A> b = new java.util.ArrayList<>();",
        "private java.util.List<Integer> a = new java.util.ArrayList<>(); int b(int c) { return a.get(c); }",
        "private void b() { } private void a() { try { b(); } catch (IllegalStateException e) { return; } }",
        "void a() { throw new UnsupportedOperationException(\"b\"); } void b() { throw new IllegalStateException(); }",
        "private static int a(int b) { return b <= 0 ? 0 : a(b - 1); }",
        "private int a(int[] b) { int c = 0; for (int d : b) { c += d; } return Math.max(c, Long.bitCount(5L)); }",
        "private int[] a(int[] b) { return b.clone(); }",
        "private final int a; LineLives() { this.a = 5; b(); } private void b() { }",
        "void a() { b(); } void b() { c(); } void c() { d(); } void d() { e(); } void e() { f(); } "
            + "void f() { g(); } void g() { h(); } void h() { }",
        "private void a() {" + "\n".repeat(59) + "}",
    };

    private LanguageTest() {
    }

    public static void main(String[] args) throws IOException {
        checkFace();
        checkNested();
        String source = Files.readString(Path.of(args[0]), StandardCharsets.UTF_8);
        Checks.same("rules broken by LineLives", SourceRules.breaches(source, PUBLIC_NAMES), List.of());
        checkRules();
        Checks.end();
    }

    private static void checkFace() {
        Checks.same("rule 1: the class", Modifier.toString(LineLives.class.getModifiers()), "public final");
        Set<String> methods = new HashSet<>();
        for (Method method : LineLives.class.getDeclaredMethods()) {
            if (!Modifier.isPrivate(method.getModifiers())) {
                methods.add(method.getReturnType() + " " + method.getName() + Arrays.stream(method.getParameterTypes())
                        .map(Class::getName).collect(Collectors.joining(",", "(", ")"))
                        + Arrays.stream(method.getExceptionTypes()).map(e -> " " + e.getSimpleName())
                        .collect(Collectors.joining()));
                Checks.same("rule 1: " + method, Modifier.toString(method.getModifiers()), "public");
            }
        }
        Checks.same("rule 1: the methods", methods, FACE);
        for (Field field : LineLives.class.getDeclaredFields()) {
            String due = field.getName().equals("NONE") ? "public static final" : "private";
            Checks.same("rule 1: " + field, Modifier.toString(field.getModifiers()).startsWith(due), true);
        }
        Constructor<?>[] constructors = LineLives.class.getDeclaredConstructors();
        Checks.same("rule 1: one constructor", constructors.length, 1);
        Checks.same("rule 1: the constructor", constructors[0].toString(), "public LineLives()");
    }

    private static void checkNested() {
        for (Class<?> nested : LineLives.class.getDeclaredClasses()) {
            Checks.same("rule 1: " + nested, Modifier.isStatic(nested.getModifiers())
                    && !Modifier.isPublic(nested.getModifiers()) && !Modifier.isProtected(nested.getModifiers()), true);
        }
        Checks.same("rule 11: classes", LineLives.class.getDeclaredClasses().length <= 11, true);
    }

    /** Without this a rule that is looked for in a wrong way would look as one that is kept. */
    private static void checkRules() throws IOException {
        for (String[] broken : BROKEN) {
            List<String> breaches = breachesOf(broken[1]);
            Checks.same("found in " + broken[1] + ": " + breaches,
                    !breaches.isEmpty() && breaches.stream().allMatch(breach -> breach.startsWith(broken[0])), true);
        }
        for (String kept : KEPT) {
            Checks.same("rules broken by " + kept, breachesOf(kept), List.of());
        }
    }

    private static List<String> breachesOf(String member) throws IOException {
        return SourceRules.breaches("public final class LineLives { " + member + " }", PUBLIC_NAMES);
    }
}
