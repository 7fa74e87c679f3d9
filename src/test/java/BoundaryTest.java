import java.io.IOException;
import java.nio.charset.StandardCharsets;
import java.nio.file.Files;
import java.nio.file.Path;
import java.util.ArrayList;
import java.util.HashSet;
import java.util.LinkedHashMap;
import java.util.List;
import java.util.Map;
import java.util.Set;

/**
 * Runs each boundary case, as a test of its own, and looks whether each sentence of the document that names one has a
 * case.
 */
public final class BoundaryTest {
    /** The sentences that name no boundary case, by their headings and first words. */
    private static final List<String> WITHOUT_BOUNDARY = List.of(
            "What it is: The lowest of many lines",
            "Terms: All numbers are integers",
            "Tree: To put a line into a node:",
            "Exceptions: Ahead of the calls `add`",
            "Exceptions: Ahead of the calls `append`",
            "Promise 19: node: Returns the property.",
            "Promise 23: ifAdded: `int ifAdded(int slope, int offset)",
            "Promise 24: highest: `int highest(int slope)",
            "Promise 25: worth: `int worth(int line)",
            "Promise 26: changesAt: `int changesAt(int place)",
            "Promise 27: meet: `int meet(int one, int other)",
            "Promise 28: mean: `double mean()`",
            "Promise 29: digest: `long digest()`",
            "Promise 29: digest: Returns the hash.",
            "Not promised: ");

    private BoundaryTest() {
    }

    public static void main(String[] args) throws IOException {
        List<Boundaries.Case> cases = new ArrayList<>();
        for (Boundaries part : new Boundaries[] {new TermsBoundaries(), new TreeBoundaries(),
            new GrammarBoundaries(), new UndoBoundaries(), new LinesBoundaries(), new TextsBoundaries(),
            new LooksBoundaries(), new WouldBeBoundaries()}) {
            cases.addAll(part.cases());
        }
        Set<String> names = new HashSet<>();
        for (Boundaries.Case each : cases) {
            String name = each.section() + ": \"" + each.words() + "\": " + each.name();
            Checks.same("the only test of its name: " + name, names.add(name), true);
            Checks.test(name, () -> each.test().run());
        }
        System.out.println(cases.size() + " boundary cases");
        Path document = Path.of(args[1]);
        if (Files.isReadable(document)) {
            checkDocument(cases, document);
        } else {
            System.out.println("no document at " + document + ": its sentences are not looked through");
        }
        Checks.end();
    }

    /** Each sentence of the document's terms and promises has a case, or is known to name none. */
    private static void checkDocument(List<Boundaries.Case> cases, Path document) throws IOException {
        Map<String, List<String>> sections = sections(Files.readAllLines(document, StandardCharsets.UTF_8));
        for (Map.Entry<String, List<String>> section : sections.entrySet()) {
            String text = String.join(" ", section.getValue());
            boolean[] covered = covered(section.getKey(), text, cases);
            int at = 0;
            for (String sentence : section.getValue()) {
                String name = section.getKey() + ": " + sentence;
                boolean plain = WITHOUT_BOUNDARY.stream().anyMatch(name::startsWith);
                Checks.same("has a boundary case: " + name, anyOf(covered, at, at + sentence.length()), !plain);
                at += sentence.length() + 1;
            }
        }
        for (Boundaries.Case each : cases) {
            List<String> section = sections.getOrDefault(each.section(), List.of());
            Checks.same("the document says under " + each.section() + ": " + each.words(),
                    String.join(" ", section).contains(each.words()), true);
        }
    }

    /** The sentences under each heading, but for the code. */
    private static Map<String, List<String>> sections(List<String> lines) {
        Map<String, List<String>> sections = new LinkedHashMap<>();
        List<String> sentences = new ArrayList<>();
        boolean code = false;
        for (String line : lines) {
            if (line.startsWith("```")) {
                code = !code;
            } else if (line.startsWith("#")) {
                sentences = new ArrayList<>();
                sections.put(line.replaceFirst("#+ ", ""), sentences);
            } else if (!code && !line.isBlank()) {
                sentences.addAll(List.of(line.split("(?<=\\.) (?=[A-Z(])")));
            }
        }
        return sections;
    }

    /** Which characters of a section belong to the words of a case. */
    private static boolean[] covered(String section, String text, List<Boundaries.Case> cases) {
        boolean[] covered = new boolean[text.length()];
        for (Boundaries.Case each : cases) {
            int at = each.section().equals(section) ? text.indexOf(each.words()) : -1;
            for (int i = at; at >= 0 && i < at + each.words().length(); i++) {
                covered[i] = true;
            }
        }
        return covered;
    }

    private static boolean anyOf(boolean[] covered, int from, int to) {
        for (int i = from; i < to; i++) {
            if (covered[i]) {
                return true;
            }
        }
        return false;
    }
}
