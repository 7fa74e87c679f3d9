import java.util.ArrayDeque;
import java.util.Deque;
import java.util.List;

/** The boundary cases of saved states, and of calls that throw or change nothing. */
final class UndoBoundaries extends Boundaries {
    @Override
    void tell() {
        savedStates();
        unsavedStates();
        whatIsSaved();
        atMostSixStates();
        exceptions();
        firstNamedException();
        constantsAndLooks();
        looksAfterChanges();
    }

    private void savedStates() {
        section("Undo");
        says("saves the state from before it (also if it changes nothing)");
        saves("add", x -> x.add(5, 6));
        saves("span, changed", x -> x.span(0, 5, 6));
        saves("span, the same", x -> x.span(2, 5, 40));
        saves("live, changed", x -> x.live(0, 5, 6));
        saves("live, the same", x -> x.live(2, 5, 9));
        saves("lift", x -> x.lift(0, 5));
        saves("lift by 0", x -> x.lift(0, 0));
        saves("turn", x -> x.turn(0, 5, 6));
        saves("turn to the same slope", x -> x.turn(0, 5, 1));
        saves("remove", x -> x.remove(0));
        saves("remove the last one", x -> x.remove(4));
        saves("prune", x -> x.prune());
        saves("go", x -> x.go(99));
        saves("go to the same moment", x -> x.go(7));
        saves("addAll", x -> {
            x.append('1');
            x.addAll();
        });
        test("prune that removes none", () -> undone(() -> with("1x+0;-1x+63"), x -> is("removed", x.prune(), 0)));
        test("prune without lines", () -> undone(LineLives::new, x -> is("removed", x.prune(), 0)));
    }

    private void unsavedStates() {
        says("does not throw an exception saves the state");
        test("calls that throw save none", () -> {
            LineLives x = with("0x+9999");
            Checks.thrownBy(() -> x.add(100, 0));
            Checks.thrownBy(() -> x.span(0, 5, 4));
            Checks.thrownBy(() -> x.live(1, 0, 0));
            Checks.thrownBy(() -> x.lift(0, 1));
            Checks.thrownBy(() -> x.turn(0, 1, -1));
            Checks.thrownBy(() -> x.remove(1));
            Checks.thrownBy(() -> x.go(100));
            Checks.thrownBy(() -> x.addAll());
            is("saved states", x.count(8), 1);
            is("left", x.undo(), 0);
            is("lines", x.count(1), 0);
        });
        says("Each method that is marked \"undoable\"");
        test("append saves none", () -> savesNone(x -> x.append('1')));
        test("clearBuffer saves none", () -> savesNone(x -> x.clearBuffer()));
        test("firstError saves none", () -> savesNone(x -> x.firstError()));
        test("undo saves none", () -> {
            LineLives x = levels(3);
            x.undo();
            is("saved states", x.count(8), 2);
            is("left", x.undo(), 1);
            is("lines", x.count(1), 1);
        });
    }

    private void whatIsSaved() {
        says("all but the buffer and the saved states");
        test("the buffer is not brought back", () -> {
            LineLives x = levels(1);
            type(x, "12");
            x.go(5);
            x.append('3');
            x.undo();
            is(x.clearBuffer(), 3);
        });
        test("a cleared buffer is not brought back", () -> {
            LineLives x = typed("1x+1");
            x.addAll();
            x.undo();
            is("lines", x.count(1), 0);
            is("buffer", x.clearBuffer(), 0);
        });
        test("the moment is brought back", () -> {
            LineLives x = new LineLives();
            x.go(99);
            x.go(5);
            x.undo();
            is("the first undo", x.count(0), 99);
            x.undo();
            is("the second undo", x.count(0), 0);
        });
    }

    private void saves(String name, Call call) {
        test(name, () -> undone(Boundaries::rich, call));
    }

    private static void savesNone(Call call) {
        LineLives x = levels(2);
        type(x, "1x");
        call.on(x);
        is("saved states", x.count(8), 2);
        is("left", x.undo(), 1);
        is("lines", x.count(1), 1);
    }

    private void atMostSixStates() {
        says("At most 6 states are saved; the oldest one is dropped first.");
        test("six", () -> undoes(6, 6, 0));
        test("seven", () -> undoes(7, 6, 1));
        test("eight", () -> undoes(8, 6, 2));
        test("twelve", () -> undoes(12, 6, 6));
        test("13", () -> undoes(13, 6, 7));
        test("20", () -> undoes(20, 6, 14));
        test("five", () -> undoes(5, 5, 0));
        test("one", () -> undoes(1, 1, 0));
        test("undone and saved in turns", () -> {
            LineLives x = new LineLives();
            Deque<Integer> saved = new ArrayDeque<>();
            for (int i = 0; i < 60; i++) {
                if (i % 5 < 3) {
                    saved.addLast(x.count(0));
                    x.go(i + 1);
                    if (saved.size() > 6) {
                        saved.removeFirst();
                    }
                } else {
                    is("left", x.undo(), saved.size() - 1);
                    is("moment", x.count(0), saved.removeLast());
                }
                is("saved states", x.count(8), saved.size());
            }
        });
        test("a dropped state does not come back", () -> refused(() -> {
            LineLives x = levels(9);
            for (int i = 0; i < 6; i++) {
                x.undo();
            }
            return x;
        }, STATE, x -> x.undo()));
    }

    /** After so many lines: how often it can be undone, and how many lines there are then. */
    private static void undoes(int lines, int often, int left) {
        LineLives x = levels(lines);
        is("saved states", x.count(8), often);
        for (int i = 1; i <= often; i++) {
            is("left", x.undo(), often - i);
            is("lines", x.count(1), lines - i);
        }
        is("lines at last", x.count(1), left);
        Checks.same("one more", Checks.thrownBy(() -> x.undo()), STATE);
    }

    // ---- exceptions

    private void exceptions() {
        section("Exceptions");
        says("A call that throws an exception changes nothing.");
        throwsOf("add, an argument", Boundaries::rich, ARGUMENT, x -> x.add(100, 0));
        throwsOf("add, 20 lines", Boundaries::full, STATE, x -> x.add(0, 0));
        throwsOf("span, no such line", Boundaries::rich, INDEX, x -> x.span(5, 1, 2));
        throwsOf("span, an argument", Boundaries::rich, ARGUMENT, x -> x.span(0, 2, 1));
        throwsOf("live, no such line", Boundaries::rich, INDEX, x -> x.live(5, 1, 2));
        throwsOf("live, an argument", Boundaries::rich, ARGUMENT, x -> x.live(0, 2, 1));
        throwsOf("lift, no such line", Boundaries::rich, INDEX, x -> x.lift(5, 1));
        throwsOf("lift, an argument", Boundaries::rich, ARGUMENT, x -> x.lift(0, 10000));
        throwsOf("lift, the offset", Boundaries::rich, STATE, x -> x.lift(3, 1));
        throwsOf("turn, no such line", Boundaries::rich, INDEX, x -> x.turn(5, 1, 1));
        throwsOf("turn, an argument", Boundaries::rich, ARGUMENT, x -> x.turn(0, 64, 1));
        throwsOf("turn, the offset", Boundaries::rich, STATE, x -> x.turn(3, 1, -1));
        throwsOf("remove", Boundaries::rich, INDEX, x -> x.remove(5));
        throwsOf("go", Boundaries::rich, ARGUMENT, x -> x.go(100));
        throwsOf("append, an argument", Boundaries::rich, ARGUMENT, x -> x.append(32));
        throwsOf("append, a full buffer", () -> typed("1".repeat(60)), STATE, x -> x.append('1'));
        throwsOf("addAll, no complete lines", Boundaries::rich, ARGUMENT, x -> x.addAll());
        throwsOf("addAll, 21 lines", Boundaries::full, STATE, x -> x.addAll());
        throwsOf("undo", () -> typed("1x+1"), STATE, x -> x.undo());
        throwsOf("line, no such line", Boundaries::rich, INDEX, x -> x.line(5, 0));
        throwsOf("line, an argument", Boundaries::rich, ARGUMENT, x -> x.line(0, 9));
        throwsOf("lowest", Boundaries::rich, ARGUMENT, x -> x.lowest(64, 0));
        throwsOf("value, an argument", Boundaries::rich, ARGUMENT, x -> x.value(64));
        throwsOf("value, none", () -> typed("1x+1"), STATE, x -> x.value(0));
        throwsOf("ranked", Boundaries::rich, ARGUMENT, x -> x.ranked(0, -1));
        throwsOf("node, no such node", Boundaries::rich, INDEX, x -> x.node(128, 0));
        throwsOf("node, an argument", Boundaries::rich, ARGUMENT, x -> x.node(1, 5));
        throwsOf("row", Boundaries::rich, ARGUMENT, x -> x.row(0, 3));
        throwsOf("sum", Boundaries::rich, ARGUMENT, x -> x.sum(2, 1));
        throwsOf("count", Boundaries::rich, ARGUMENT, x -> x.count(9));
        throwsOf("ifAdded", Boundaries::rich, ARGUMENT, x -> x.ifAdded(100, 0));
        throwsOf("highest", Boundaries::rich, ARGUMENT, x -> x.highest(100));
        throwsOf("worth", Boundaries::rich, INDEX, x -> x.worth(5));
        throwsOf("changesAt", Boundaries::rich, ARGUMENT, x -> x.changesAt(64));
        throwsOf("meet, no such line", Boundaries::rich, INDEX, x -> x.meet(0, 5));
        throwsOf("meet, the same", Boundaries::rich, ARGUMENT, x -> x.meet(1, 1));
    }

    private void throwsOf(String name, Making making, Class<?> due, Call call) {
        test(name, () -> refused(making, due, call));
    }

    private void firstNamedException() {
        says("If several exceptions apply, the one that is named first in the throws clause is thrown.");
        throwsOf("add: argument, state", Boundaries::full, ARGUMENT, x -> x.add(0, 10000));
        throwsOf("span: index, argument", Boundaries::rich, INDEX, x -> x.span(5, 2, 1));
        throwsOf("live: index, argument", Boundaries::rich, INDEX, x -> x.live(-1, 0, 100));
        throwsOf("lift: index, argument", Boundaries::rich, INDEX, x -> x.lift(5, 10000));
        throwsOf("lift: argument, state", Boundaries::rich, ARGUMENT, x -> x.lift(3, 10000));
        throwsOf("lift: argument, state, below", Boundaries::rich, ARGUMENT, x -> x.lift(4, -10000));
        throwsOf("turn: index, argument", Boundaries::rich, INDEX, x -> x.turn(5, 64, 100));
        throwsOf("turn: argument, state", Boundaries::rich, ARGUMENT, x -> x.turn(3, 64, -99));
        throwsOf("turn: argument of the slope, state", Boundaries::rich, ARGUMENT, x -> x.turn(3, 63, -100));
        throwsOf("append: argument, state", () -> typed("1".repeat(60)), ARGUMENT, x -> x.append(127));
        throwsOf("addAll: argument, state", () -> {
            LineLives x = full();
            x.append(';');
            return x;
        }, ARGUMENT, x -> x.addAll());
        throwsOf("addAll: argument, state, with an empty buffer", () -> levels(20), ARGUMENT, x -> x.addAll());
        throwsOf("line: index, argument", Boundaries::rich, INDEX, x -> x.line(5, 9));
        throwsOf("value: argument, state", LineLives::new, ARGUMENT, x -> x.value(64));
        throwsOf("node: index, argument", Boundaries::rich, INDEX, x -> x.node(0, 5));
        throwsOf("meet: index, argument", Boundaries::rich, INDEX, x -> x.meet(5, 5));
        throwsOf("meet: index, argument, without lines", LineLives::new, INDEX, x -> x.meet(0, 0));
    }

    private void constantsAndLooks() {
        says("`NONE = -1`: There is nothing to return.");
        test("the constant", () -> is(LineLives.NONE, -1));
        test("where there is nothing", () -> is(new LineLives().lowest(0, 0), -1));
        says("---- looks; nothing is changed");
        looks("line", x -> x.line(4, 8));
        looks("lowest", x -> x.lowest(63, 99));
        looks("value", x -> x.value(63));
        looks("ranked", x -> x.ranked(63, MOST));
        looks("node", x -> x.node(127, 4));
        looks("row", x -> x.row(MOST, 2));
        looks("sum", x -> x.sum(0, 63));
        looks("count", x -> x.count(8));
        says("---- what would be; nothing is changed");
        looks("ifAdded", x -> x.ifAdded(-99, -9999));
        looks("ifAdded with 20 lines", Boundaries::full, x -> x.ifAdded(-99, -9999));
        looks("highest", x -> x.highest(-99));
        looks("worth", x -> x.worth(0));
        looks("changesAt", x -> x.changesAt(63));
        looks("meet", x -> x.meet(4, 0));
        looks("mean", x -> x.mean());
        looks("digest", x -> x.digest());
    }

    private void looks(String name, Call call) {
        looks(name, Boundaries::rich, call);
    }

    private void looks(String name, Making making, Call call) {
        test(name, () -> changesNothing(making, call));
    }

    /** What a look answers. */
    private interface Look {
        long of(LineLives x);
    }

    private static final List<Call> CHANGES = List.of(x -> x.add(-1, 3), x -> x.span(0, 1, 30), x -> x.live(0, 3, 9),
            x -> x.lift(0, 50), x -> x.turn(0, 10, 2), x -> x.remove(0), x -> x.prune(), x -> x.go(61),
            x -> x.addAll(), x -> x.undo());

    private void looksAfterChanges() {
        says("Ahead of the calls `line`, `lowest`, `value`, `ranked`, `node`, `row`, `sum`, `count`");
        sees("line, 6", x -> x.line(0, 6));
        sees("line, 7", x -> x.line(0, 7));
        sees("line, 8", x -> x.line(0, 8));
        sees("lowest", x -> x.lowest(0, 0));
        sees("value", x -> x.value(63));
        sees("ranked", x -> x.ranked(0, 1));
        sees("node, 0", x -> x.node(1, 0));
        sees("node, 4", x -> x.node(1, 4));
        sees("row, 0", x -> x.row(1, 0));
        sees("row, 1", x -> x.row(0, 1));
        sees("row, 2", x -> x.row(0, 2));
        sees("sum", x -> x.sum(0, 63));
        for (int what = 0; what <= 8; what++) {
            int number = what;
            sees("count, " + what, x -> x.count(number));
        }
        says("Ahead of the calls `ifAdded`, `highest`, `worth`, `changesAt`, `meet`, `mean`, `digest`");
        sees("ifAdded", x -> x.ifAdded(0, 5));
        sees("highest", x -> x.highest(0));
        sees("worth", x -> x.worth(0));
        sees("changesAt", x -> x.changesAt(0));
        sees("meet", x -> x.meet(0, 1));
        sees("mean", x -> Double.doubleToLongBits(x.mean()));
        sees("digest", x -> x.digest());
    }

    /** It answers the same, whether it is asked first after a change or after all the others. */
    private void sees(String name, Look look) {
        test(name + " asked first after each change", () -> {
            for (Call change : CHANGES) {
                LineLives x = changing();
                x.digest();
                change.on(x);
                long first = look.of(x);
                LineLives y = changing();
                change.on(y);
                y.digest();
                is("change " + CHANGES.indexOf(change), first, look.of(y));
            }
        });
    }

    private static LineLives changing() {
        LineLives x = with("0x+5@0-60;1x-3");
        x.add(0, 5);
        x.add(0, 4);
        x.add(0, 9);
        type(x, "-2x+7@0-50;3x+1");
        return x;
    }
}
