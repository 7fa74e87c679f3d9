import java.lang.reflect.InvocationTargetException;
import java.lang.reflect.Method;
import java.util.ArrayList;
import java.util.Arrays;
import java.util.Comparator;
import java.util.List;
import java.util.Random;

/** Runs of calls by fixed seeds, each answer against that of PlainLines. */
public final class RandomRunsTest {
    private static final int RUNS = 1200;
    private static final int CALLS = 512;
    private static final List<Method> LOOKS = new ArrayList<>();
    private static final List<Method> CHANGES = new ArrayList<>();

    private final Random random;
    private final int run;
    // How far slopes and offsets go: little ones make many ties.
    private final int slopes;
    private final int offsets;
    // How seldom lines are taken away.
    private final int scarce;
    private final LineLives lives = new LineLives();
    private final PlainLines plain = new PlainLines();
    private final List<String> told = new ArrayList<>();
    private int calls = 0;

    private RandomRunsTest(int run) {
        this.run = run;
        random = new Random(run * 7919L + 17);
        slopes = new int[] {1, 3, 10, 99}[run % 4];
        offsets = new int[] {5, 64, 640, 9999}[random.nextInt(4)];
        scarce = new int[] {2, 5, 30}[run % 3];
    }

    public static void main(String[] args) throws Exception {
        List<String> changing = List.of("add", "span", "live", "lift", "turn", "remove", "prune", "go", "append",
                "clearBuffer", "addAll", "undo");
        for (Method method : LineLives.class.getDeclaredMethods()) {
            if (java.lang.reflect.Modifier.isPublic(method.getModifiers()) && !method.getName().equals("digest")) {
                (changing.contains(method.getName()) ? CHANGES : LOOKS).add(method);
            }
        }
        // The order of getDeclaredMethods is free, and the runs are to be the same ones each time.
        LOOKS.sort(Comparator.comparing(Method::getName));
        CHANGES.sort(Comparator.comparing(Method::getName));
        for (int run = 0; run < RUNS; run++) {
            new RandomRunsTest(run).play();
        }
        Checks.end();
    }

    private void play() throws Exception {
        while (calls < CALLS) {
            int kind = random.nextInt(100);
            if (kind < 8) {
                type();
            } else if (kind < 45) {
                compare(CHANGES.get(random.nextInt(CHANGES.size())));
            } else if (kind < 98) {
                compare(LOOKS.get(random.nextInt(LOOKS.size())));
            } else {
                compare(LineLives.class.getMethod("digest"));
            }
        }
    }

    /** Types a text, mostly a right one, and lets it be added. */
    private void type() throws Exception {
        Method append = LineLives.class.getMethod("append", int.class);
        String text = text();
        if (random.nextInt(4) > 0) {
            compare(LineLives.class.getMethod("clearBuffer"));
        }
        for (int i = 0; i < text.length(); i++) {
            compare(append, (int) text.charAt(i));
        }
        compare(LineLives.class.getMethod("firstError"));
        compare(LineLives.class.getMethod("addAll"));
        if (random.nextInt(3) > 0) {
            compare(LineLives.class.getMethod("clearBuffer"));
        }
    }

    private String text() {
        StringBuilder text = new StringBuilder();
        int lines = 1 + random.nextInt(3);
        for (int i = 0; i < lines; i++) {
            text.append(i == 0 ? "" : ";").append(slope()).append("x");
            int offset = offset();
            text.append(offset < 0 || offset == 0 && random.nextBoolean() ? "-" : "+").append(Math.abs(offset));
            if (random.nextBoolean()) {
                int first = moment();
                int last = random.nextInt(6) > 0 ? first + random.nextInt(100 - first) : moment();
                text.append("@").append(first).append("-").append(last);
            }
        }
        if (random.nextInt(3) == 0) {
            String signs = "0123456789x+-@;y,";
            text.setCharAt(random.nextInt(text.length()), signs.charAt(random.nextInt(signs.length())));
        }
        return text.toString();
    }

    private int slope() {
        return random.nextInt(2 * slopes + 1) - slopes;
    }

    private int offset() {
        return random.nextInt(2 * offsets + 1) - offsets;
    }

    private int moment() {
        return random.nextBoolean() ? random.nextInt(100) : random.nextInt(10) * 11;
    }

    private int lineNumber() {
        int lines = plain.count(1);
        return random.nextInt(20) == 0 || lines == 0 ? random.nextInt(24) - 2 : random.nextInt(lines);
    }

    /** Mostly right arguments, sometimes ones that are out of range. */
    private Object[] argumentsOf(String name) {
        switch (name) {
            case "add":
            case "ifAdded":
                return new Object[] {strange(slope()), strange(offset())};
            case "span":
                return stretch(64);
            case "live":
                return stretch(100);
            case "lift":
                return new Object[] {lineNumber(), strange(offset())};
            case "turn":
                return new Object[] {lineNumber(), strange(random.nextInt(64)), strange(slope())};
            case "remove":
            case "worth":
                return new Object[] {lineNumber()};
            case "go":
                return new Object[] {strange(moment())};
            case "append":
                return new Object[] {strange(random.nextInt(128))};
            case "line":
                return new Object[] {lineNumber(), strange(random.nextInt(10))};
            case "lowest":
                return new Object[] {strange(random.nextInt(64)), strange(moment())};
            case "value":
            case "changesAt":
                return new Object[] {strange(random.nextInt(64))};
            case "ranked":
                return new Object[] {strange(random.nextInt(64)), strange(random.nextInt(8))};
            case "node":
                return new Object[] {strange(1 + random.nextInt(1 << 1 + random.nextInt(7))), strange(random.nextInt(5))};
            case "row":
                return new Object[] {strange(random.nextInt(10)), strange(random.nextInt(3))};
            case "sum":
                return Arrays.copyOfRange(stretch(64), 1, 3);
            case "count":
                return new Object[] {strange(random.nextInt(9))};
            case "highest":
                return new Object[] {strange(slope())};
            case "meet":
                return new Object[] {lineNumber(), lineNumber()};
            default:
                return new Object[] {};
        }
    }

    private Object[] stretch(int end) {
        int first = random.nextInt(end);
        int last = first + random.nextInt(end - first);
        return new Object[] {lineNumber(), strange(first), strange(last)};
    }

    private int strange(int number) {
        if (random.nextInt(60) > 0) {
            return number;
        }
        int[] numbers = {-1, 64, 100, -100, 127, 128, 10000, -10000, Integer.MAX_VALUE, Integer.MIN_VALUE};
        return numbers[random.nextInt(numbers.length)];
    }

    private void compare(Method method) throws Exception {
        String name = method.getName();
        // Without this the lines would soon be few in every run.
        if ((name.equals("prune") || name.equals("remove") || name.equals("undo")) && random.nextInt(scarce) > 0) {
            return;
        }
        compare(method, argumentsOf(name));
    }

    /** What is called behind the last promised call is left out. */
    private void compare(Method method, Object... arguments) throws Exception {
        if (calls >= CALLS) {
            return;
        }
        calls++;
        Method same = PlainLines.class.getMethod(method.getName(), method.getParameterTypes());
        Object due = answer(same, plain, arguments);
        Object got = answer(method, lives, arguments);
        tell(method.getName() + Arrays.toString(arguments), got, due);
    }

    /** After a wrong answer it prints the run that led to it, and ends the test: the next answers follow from it. */
    private void tell(String call, Object got, Object due) {
        told.add(call);
        if (!got.equals(due)) {
            System.out.println("run " + run + ": " + String.join(" ", told));
            Checks.same("run " + run + ", call " + told.size() + ": " + call, got, due);
            Checks.end();
        }
    }

    private static Object answer(Method method, Object on, Object... arguments) throws Exception {
        try {
            return method.invoke(on, arguments);
        } catch (InvocationTargetException e) {
            return "throws " + e.getCause().getClass().getName();
        }
    }
}
