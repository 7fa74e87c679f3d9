import java.util.ArrayList;
import java.util.List;

/** Boundary cases: each one has the words of the document that name it, and is a test of its own. */
abstract class Boundaries {
    static final Class<?> ARGUMENT = IllegalArgumentException.class;
    static final Class<?> STATE = IllegalStateException.class;
    static final Class<?> INDEX = IndexOutOfBoundsException.class;
    static final int NONE = -1;
    static final int LEAST = Integer.MIN_VALUE;
    static final int MOST = Integer.MAX_VALUE;

    /** The calls of a test. */
    interface Test {
        void run();
    }

    /** Makes an object to test with, the same one each time. */
    interface Making {
        LineLives make();
    }

    interface Call {
        void on(LineLives x);
    }

    interface CallWith {
        void on(LineLives x, int number);
    }

    record Case(String section, String words, String name, Test test) {
    }

    private final List<Case> cases = new ArrayList<>();
    private String section = "";
    private String words = "";

    /** Tells all cases, by section, says and test. */
    abstract void tell();

    final List<Case> cases() {
        tell();
        return cases;
    }

    /** The heading of the document under which the next words stand. */
    final void section(String heading) {
        section = heading;
    }

    /** The document's words that the next tests are for. */
    final void says(String words) {
        this.words = words;
    }

    final void test(String name, Test test) {
        cases.add(new Case(section, words, name, test));
    }

    /** The ends of a range are taken, what is just outside of it and far outside of it is refused. */
    final void range(String name, int least, int most, CallWith call) {
        takes(name, least, call);
        if (most > least) {
            takes(name, most, call);
        }
        refuses(name, least - 1, ARGUMENT, call);
        refuses(name, most + 1, ARGUMENT, call);
        refuses(name, LEAST, ARGUMENT, call);
        refuses(name, MOST, ARGUMENT, call);
    }

    /** The first and the last of the lines of rich() are taken, other numbers are refused. */
    final void lineNumber(String name, CallWith call) {
        takes(name, 0, call);
        takes(name, RICH_LINES - 1, call);
        refuses(name, -1, INDEX, call);
        refuses(name, RICH_LINES, INDEX, call);
        refuses(name, LEAST, INDEX, call);
        refuses(name, MOST, INDEX, call);
        test(name + " 0 without lines", () -> refused(LineLives::new, INDEX, x -> call.on(x, 0)));
        test(name + " 20 of 20 lines", () -> refused(Boundaries::full, INDEX, x -> call.on(x, 20)));
        test(name + " of the last one, once removed", () -> refused(() -> {
            LineLives x = rich();
            x.remove(RICH_LINES - 1);
            return x;
        }, INDEX, x -> call.on(x, RICH_LINES - 1)));
    }

    private void takes(String name, int number, CallWith call) {
        test(name + " " + number + " is taken", () ->
                Checks.same("throws", Checks.thrownBy(() -> call.on(rich(), number)), null));
    }

    private void refuses(String name, int number, Class<?> due, CallWith call) {
        test(name + " " + number + " is refused", () -> refused(Boundaries::rich, due, x -> call.on(x, number)));
    }

    // ---- objects

    static void type(LineLives x, String text) {
        for (int i = 0; i < text.length(); i++) {
            x.append(text.charAt(i));
        }
    }

    static LineLives typed(String text) {
        LineLives x = new LineLives();
        type(x, text);
        return x;
    }

    static LineLives with(String text) {
        LineLives x = typed(text);
        x.addAll();
        return x;
    }

    /** So many level lines, the lowest one first. */
    static LineLives levels(int lines) {
        LineLives x = new LineLives();
        for (int i = 0; i < lines; i++) {
            x.add(0, i);
        }
        return x;
    }

    static final int RICH_LINES = 5;

    /** Five lines with spans and lives at the moment 7, six saved states and some dropped ones, a text half typed. */
    static LineLives rich() {
        LineLives x = new LineLives();
        x.add(1, 0);
        x.add(-1, 63);
        x.add(0, 20);
        x.add(0, 9999);
        x.add(3, -9999);
        x.span(2, 5, 40);
        x.live(2, 5, 9);
        x.live(4, 50, 60);
        x.go(7);
        type(x, "1x+");
        return x;
    }

    /** 20 lines, six saved states, and a line as a text. */
    static LineLives full() {
        LineLives x = levels(20);
        x.go(3);
        type(x, "1x+1");
        return x;
    }

    // ---- what is due

    static void is(long got, long due) {
        Checks.same("answer", got, due);
    }

    static void is(String what, long got, long due) {
        Checks.same(what, got, due);
    }

    /** The first properties of a line. */
    static void line(LineLives x, int line, int... due) {
        for (int what = 0; what < due.length; what++) {
            is("line(" + line + ", " + what + ")", x.line(line, what), due[what]);
        }
    }

    /** The line that a node keeps, and its steps. */
    static void node(LineLives x, int node, int line, int steps) {
        is("node(" + node + ", 0)", x.node(node, 0), line);
        is("node(" + node + ", 4)", x.node(node, 4), steps);
    }

    static void row(LineLives x, int row, int first, int places, int line) {
        is("row(" + row + ", 0)", x.row(row, 0), first);
        is("row(" + row + ", 1)", x.row(row, 1), places);
        is("row(" + row + ", 2)", x.row(row, 2), line);
    }

    /** The call throws just this exception, and all that can be asked, and undone, later is as without the call. */
    static void refused(Making making, Class<?> due, Call call) {
        LineLives x = making.make();
        Checks.same("throws", Checks.thrownBy(() -> call.on(x)), due);
        Checks.same("the state after it", whole(x), whole(making.make()));
    }

    /** The call throws nothing, and all that can be asked, and undone, later is as without the call. */
    static void changesNothing(Making making, Call call) {
        refused(making, null, call);
    }

    /** The call can be undone, and saves a state. */
    static void undone(Making making, Call call) {
        LineLives x = making.make();
        List<Integer> before = contents(x);
        int saved = x.count(8);
        call.on(x);
        is("saved states", x.count(8), Math.min(saved + 1, 6));
        is("left", x.undo(), Math.min(saved, 5));
        Checks.same("moment and lines", contents(x), before);
    }

    /** All that undo brings back: the moment, how many lines there are, and their properties. */
    static List<Integer> contents(LineLives x) {
        List<Integer> told = new ArrayList<>(List.of(x.count(0), x.count(1)));
        for (int line = 0; line < x.count(1); line++) {
            for (int what = 0; what <= 8; what++) {
                told.add(x.line(line, what));
            }
        }
        return told;
    }

    /** The state, the saved states and the buffer; the object is used up by it. */
    private static List<Object> whole(LineLives x) {
        List<Object> told = new ArrayList<>(List.of(x.digest(), x.firstError()));
        for (int saved = x.count(8); saved > 0; saved--) {
            told.add(x.undo());
            told.add(x.digest());
        }
        told.add(String.valueOf(Checks.thrownBy(() -> x.undo())));
        told.add(x.clearBuffer());
        return told;
    }
}
