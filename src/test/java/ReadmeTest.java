import java.io.File;
import java.io.IOException;
import java.lang.reflect.Method;
import java.lang.reflect.Modifier;
import java.net.URL;
import java.net.URLClassLoader;
import java.nio.charset.StandardCharsets;
import java.nio.file.Files;
import java.nio.file.Path;
import java.util.ArrayList;
import java.util.List;
import java.util.regex.Matcher;
import java.util.regex.Pattern;
import javax.tools.ToolProvider;

/** Whether README.md tells how to use the class and how to run its tests, and whether what it tells is so. */
public final class ReadmeTest {
    /** A line of the example that says what its call answers, or what it throws. */
    private static final Pattern ANSWERED = Pattern.compile("(lives\\.\\w+\\(.*\\)); +// (throws \\w+|-?[\\d.]+)(:.*)?");

    private ReadmeTest() {
    }

    public static void main(String[] args) throws Exception {
        Path readme = Path.of(args[2]);
        String text = Files.readString(readme, StandardCharsets.UTF_8);
        checkExample(text);
        checkCalls(text);
        checkTests(text, readme.resolveSibling("src/test/java"));
        Checks.same("the script that runs the tests", text.contains(".ci/run")
                && Files.isExecutable(readme.resolveSibling(".ci/run")), true);
        Checks.end();
    }

    // ---- the example

    private static void checkExample(String text) throws Exception {
        List<String> due = new ArrayList<>();
        StringBuilder code = new StringBuilder();
        for (String line : block(text, "java")) {
            Matcher answered = ANSWERED.matcher(line);
            if (answered.matches()) {
                due.add(answered.group(1) + " // " + answered.group(2));
                code.append(telling(answered.group(1)));
            } else {
                Checks.same("says what it answers, as the others do: " + line, line.contains("//"), false);
                code.append(line).append('\n');
            }
        }
        Checks.same("the example has answers", due.size() > 10, true);
        Checks.same("the example", answers(code.toString()), due);
    }

    private static List<String> block(String text, String language) {
        Matcher block = Pattern.compile("```" + language + "\n(.*?)```", Pattern.DOTALL).matcher(text);
        Checks.same("there is an example", block.find(), true);
        return block.group(1).lines().toList();
    }

    /** The call, and that its answer is told. */
    private static String telling(String call) {
        return "try { told.add(\"" + call.replace("\"", "\\\"") + " // \" + " + call + "); } "
                + "catch (RuntimeException e) { told.add(\"" + call.replace("\"", "\\\"")
                + " // throws \" + e.getClass().getSimpleName()); }\n";
    }

    private static Object answers(String code) throws Exception {
        Path folder = Files.createTempDirectory("readme");
        Path source = folder.resolve("ReadmeExample.java");
        try {
            Files.writeString(source, "public class ReadmeExample {\n"
                    + "public static java.util.List<String> told() {\n"
                    + "java.util.List<String> told = new java.util.ArrayList<>();\n" + code + "return told;\n}\n}\n");
            int compiled = ToolProvider.getSystemJavaCompiler().run(null, null, null, "-proc:none", "-cp",
                    System.getProperty("java.class.path"), "-d", folder.toString(), source.toString());
            Checks.same("the example compiles", compiled, 0);
            try (URLClassLoader loader = new URLClassLoader(new URL[] {folder.toUri().toURL()})) {
                return loader.loadClass("ReadmeExample").getMethod("told").invoke(null);
            }
        } finally {
            clear(folder);
        }
    }

    private static void clear(Path folder) throws IOException {
        File[] files = folder.toFile().listFiles();
        for (File file : files == null ? new File[0] : files) {
            Files.delete(file.toPath());
        }
        Files.delete(folder);
    }

    // ---- calls and tests

    /** Each call stands there, with as many arguments as it has. */
    private static void checkCalls(String text) {
        int calls = 0;
        for (Method method : LineLives.class.getDeclaredMethods()) {
            if (Modifier.isPublic(method.getModifiers())) {
                calls++;
                String arguments = "\\w+, ".repeat(method.getParameterCount()).replaceAll(", $", "");
                Checks.same("tells of " + method, Pattern.compile("\n\\| `" + method.getName() + "\\(" + arguments
                        + "\\)` \\| .+ \\|\n").matcher(text).find(), true);
            }
        }
        Checks.same("tells of no other calls", text.lines().filter(line -> line.startsWith("| `")).count(), calls);
        Checks.same("tells of NONE", text.contains("`LineLives.NONE`, which is " + LineLives.NONE), true);
    }

    private static void checkTests(String text, Path folder) {
        String[] names = folder.toFile().list();
        Checks.same("there are tests in " + folder, names != null && names.length > 0, true);
        for (String name : names == null ? new String[0] : names) {
            String plain = name.replace(".java", "");
            Checks.same("tells of the file " + name, text.contains("`" + plain + "`")
                    || plain.endsWith("Boundaries") && text.contains("`*Boundaries.java`"), true);
        }
    }
}
