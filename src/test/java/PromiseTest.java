import java.util.function.Supplier;

/** Each promise by hand: ordinary inputs, the edges that the document names, and wrong inputs. */
public final class PromiseTest {
    private static final Class<?> ARGUMENT = IllegalArgumentException.class;
    private static final Class<?> STATE = IllegalStateException.class;
    private static final Class<?> INDEX = IndexOutOfBoundsException.class;
    private static final int LEAST = Integer.MIN_VALUE;
    private static final int MOST = Integer.MAX_VALUE;

    private PromiseTest() {
    }

    public static void main(String[] args) {
        promise1New();
        promise2Add();
        promise3Span();
        promise4Live();
        promise5Lift();
        promise6Turn();
        promise7Remove();
        promise8Prune();
        promise9Go();
        promise10Append();
        promise11ClearBuffer();
        promise12FirstError();
        promise13AddAll();
        promise14Undo();
        promise14UndoOfEachMethod();
        promise15Line();
        promise16Lowest();
        promise17Value();
        promise18Ranked();
        promise19Node();
        promise19NodeTies();
        promise19NodeSpans();
        promise20Row();
        promise21Sum();
        promise22Count();
        promise23IfAdded();
        promise24Highest();
        promise25Worth();
        promise26ChangesAt();
        promise27Meet();
        promise28Mean();
        promise29Digest();
        Checks.end();
    }

    // ---- helpers

    private static void same(String what, long got, long due) {
        Checks.same(what, got, due);
    }

    private static void type(LineLives x, String text) {
        for (int i = 0; i < text.length(); i++) {
            x.append(text.charAt(i));
        }
    }

    private static LineLives typed(String text) {
        LineLives x = new LineLives();
        type(x, text);
        return x;
    }

    private static LineLives with(String text) {
        LineLives x = typed(text);
        x.addAll();
        return x;
    }

    private static LineLives withLines(int lines) {
        LineLives x = new LineLives();
        for (int i = 0; i < lines; i++) {
            x.add(0, i);
        }
        return x;
    }

    private static void line(String what, LineLives x, int line, int... due) {
        for (int i = 0; i < due.length; i++) {
            same(what + ": line(" + line + ", " + i + ")", x.line(line, i), due[i]);
        }
    }

    private static void node(String what, LineLives x, int node, int line, int steps) {
        same(what + ": node(" + node + ", 0)", x.node(node, 0), line);
        same(what + ": node(" + node + ", 4)", x.node(node, 4), steps);
    }

    private static void row(String what, LineLives x, int row, int first, int places, int line) {
        same(what + ": row(" + row + ", 0)", x.row(row, 0), first);
        same(what + ": row(" + row + ", 1)", x.row(row, 1), places);
        same(what + ": row(" + row + ", 2)", x.row(row, 2), line);
    }

    // ---- lines

    private static void promise1New() {
        LineLives x = new LineLives();
        same("1: NONE", LineLives.NONE, -1);
        same("1: lines", x.count(1), 0);
        same("1: moment", x.count(0), 0);
        same("1: saved states", x.count(8), 0);
        same("1: buffer", x.clearBuffer(), 0);
        same("1: of another object", withLines(3).count(1) + x.count(1), 3);
    }

    private static void promise2Add() {
        LineLives x = new LineLives();
        same("2: the first one", x.add(3, -7), 0);
        same("2: the second one", x.add(-99, 9999), 1);
        same("2: the third one", x.add(99, -9999), 2);
        line("2", x, 0, 3, -7, 0, 63, 0, 99);
        line("2", x, 1, -99, 9999, 0, 63, 0, 99);
        line("2", x, 2, 99, -9999, 0, 63, 0, 99);
        int[][] wrong = {{100, 0}, {-100, 0}, {0, 10000}, {0, -10000}, {MOST, 0}, {LEAST, 0}, {0, MOST}, {0, LEAST}};
        for (int[] w : wrong) {
            Checks.refused("2: add(" + w[0] + ", " + w[1] + ")", x, ARGUMENT, () -> x.add(w[0], w[1]));
        }
        x.span(2, 5, 9);
        x.live(2, 5, 9);
        x.remove(2);
        same("2: after a removed one", x.add(1, 2), 2);
        line("2: nothing of it is left", x, 2, 1, 2, 0, 63, 0, 99);
        LineLives full = withLines(20);
        same("2: the last number", full.line(19, 1), 19);
        Checks.refused("2: a line too many", full, STATE, () -> full.add(0, 0));
        Checks.refused("2: the argument comes first", full, ARGUMENT, () -> full.add(100, 0));
    }

    private static void promise3Span() {
        LineLives x = with("1x+0;-1x+63");
        same("3: of all places", x.span(0, 10, 20), 64);
        line("3", x, 0, 1, 0, 10, 20, 0, 99);
        line("3", x, 1, -1, 63, 0, 63, 0, 99);
        same("3: of some places", x.span(0, 63, 63), 11);
        same("3: of one place", x.span(0, 0, 63), 1);
        same("3: the other line", x.span(1, 0, 0), 64);
        int[][] wrong = {{-1, 5}, {5, 4}, {0, 64}, {64, 64}, {LEAST, 0}, {0, MOST}, {0, -1}};
        for (int[] w : wrong) {
            Checks.refused("3: span(0, " + w[0] + ", " + w[1] + ")", x, ARGUMENT, () -> x.span(0, w[0], w[1]));
        }
        for (int line : new int[] {-1, 2, 20, MOST, LEAST}) {
            Checks.refused("3: no line " + line, x, INDEX, () -> x.span(line, 0, 1));
            Checks.refused("3: the index comes first", x, INDEX, () -> x.span(line, 5, 4));
        }
    }

    private static void promise4Live() {
        LineLives x = with("1x+0;-1x+63");
        same("4: of all moments", x.live(1, 10, 20), 100);
        line("4", x, 1, -1, 63, 0, 63, 10, 20);
        line("4", x, 0, 1, 0, 0, 63, 0, 99);
        same("4: of some moments", x.live(1, 99, 99), 11);
        same("4: of one moment", x.live(1, 0, 99), 1);
        int[][] wrong = {{-1, 5}, {5, 4}, {0, 100}, {100, 100}, {LEAST, 0}, {0, MOST}, {0, -1}};
        for (int[] w : wrong) {
            Checks.refused("4: live(0, " + w[0] + ", " + w[1] + ")", x, ARGUMENT, () -> x.live(0, w[0], w[1]));
        }
        for (int line : new int[] {-1, 2, 20, MOST, LEAST}) {
            Checks.refused("4: no line " + line, x, INDEX, () -> x.live(line, 0, 1));
            Checks.refused("4: the index comes first", x, INDEX, () -> x.live(line, 5, 4));
        }
    }

    private static void promise5Lift() {
        LineLives x = with("1x+10;2x-20");
        same("5: up", x.lift(0, 5), 15);
        same("5: down", x.lift(1, -5), -25);
        line("5", x, 0, 1, 15, 0, 63, 0, 99);
        line("5", x, 1, 2, -25, 0, 63, 0, 99);
        same("5: up to the highest", x.lift(0, 9984), 9999);
        same("5: by 0", x.lift(0, 0), 9999);
        same("5: by the least", x.lift(0, -9999), 0);
        same("5: to the lowest", x.lift(0, -9999), -9999);
        Checks.refused("5: below it", x, STATE, () -> x.lift(0, -1));
        same("5: by the most", x.lift(1, 9999), 9974);
        Checks.refused("5: above the highest", x, STATE, () -> x.lift(1, 26));
        for (int by : new int[] {10000, -10000, MOST, LEAST}) {
            Checks.refused("5: by " + by, x, ARGUMENT, () -> x.lift(1, by));
        }
        for (int line : new int[] {-1, 2, MOST, LEAST}) {
            Checks.refused("5: no line " + line, x, INDEX, () -> x.lift(line, 0));
            Checks.refused("5: the index comes first", x, INDEX, () -> x.lift(line, 10000));
        }
    }

    private static void promise6Turn() {
        LineLives x = with("1x+10;2x-20");
        same("6: around a place", x.turn(0, 10, 3), -10);
        line("6", x, 0, 3, -10, 0, 63, 0, 99);
        same("6: around the place 0", x.turn(0, 0, -99), -10);
        x.span(1, 0, 5);
        same("6: around a place not in the span", x.turn(1, 63, -1), 169);
        line("6", x, 1, -1, 169, 0, 5, 0, 99);
        same("6: the same slope", x.turn(1, 63, -1), 169);
        LineLives y = with("99x+9900;-99x-9900");
        same("6: up to the highest", y.turn(0, 11, 90), 9999);
        Checks.refused("6: above it", y, STATE, () -> y.turn(0, 1, 89));
        same("6: down to the lowest", y.turn(1, 11, -90), -9999);
        Checks.refused("6: below it", y, STATE, () -> y.turn(1, 1, -89));
        int[][] wrong = {{-1, 0}, {64, 0}, {0, 100}, {0, -100}, {MOST, 0}, {LEAST, 0}, {0, MOST}, {0, LEAST}};
        for (int[] w : wrong) {
            Checks.refused("6: turn(0, " + w[0] + ", " + w[1] + ")", y, ARGUMENT, () -> y.turn(0, w[0], w[1]));
        }
        Checks.refused("6: the argument comes before the state", y, ARGUMENT, () -> y.turn(0, 64, -99));
        for (int line : new int[] {-1, 2, MOST, LEAST}) {
            Checks.refused("6: no line " + line, y, INDEX, () -> y.turn(line, 0, 0));
            Checks.refused("6: the index comes first", y, INDEX, () -> y.turn(line, 64, 0));
        }
    }

    private static void promise7Remove() {
        LineLives x = with("1x+10;2x-20@3-4;3x+30;4x-40");
        x.span(1, 5, 6);
        same("7: one in the middle", x.remove(0), 3);
        line("7", x, 0, 2, -20, 5, 6, 3, 4);
        line("7", x, 1, 3, 30, 0, 63, 0, 99);
        line("7", x, 2, 4, -40, 0, 63, 0, 99);
        Checks.refused("7: its number is gone", x, INDEX, () -> x.line(3, 0));
        same("7: the last one", x.remove(2), 2);
        same("7: the second one", x.remove(1), 1);
        same("7: the only one", x.remove(0), 0);
        for (int line : new int[] {-1, 0, 1, MOST, LEAST}) {
            Checks.refused("7: no line " + line, x, INDEX, () -> x.remove(line));
        }
        LineLives full = withLines(20);
        same("7: of 20", full.remove(19), 19);
        same("7: there is room again", full.add(1, 1), 19);
    }

    private static void promise8Prune() {
        LineLives x = new LineLives();
        same("8: without lines", x.prune(), 0);
        same("8: saves a state all the same", x.count(8), 1);
        // 1 is above 0, 2 is equal to 0 and came later, 3 is above 0 but outlives it, 4 is lower somewhere.
        type(x, "0x+5@0-98;0x+6@0-98;0x+5@0-98;0x+9;1x+4");
        x.addAll();
        same("8: those above, and the later ones of like ones", x.prune(), 2);
        same("8: the others stay", x.count(1), 3);
        line("8", x, 0, 0, 5, 0, 63, 0, 98);
        line("8", x, 1, 0, 9, 0, 63, 0, 99);
        line("8", x, 2, 1, 4, 0, 63, 0, 99);
        same("8: nothing more", x.prune(), 0);
        LineLives ends = with("0x+9;0x+5;0x+8");
        same("8: the first one and the last one", ends.prune(), 2);
        line("8", ends, 0, 0, 5, 0, 63, 0, 99);
        same("8: one is left", ends.count(1), 1);
        LineLives y = with("0x+0;0x+1;0x+2;0x-1@7-7");
        y.span(1, 3, 3);
        y.span(0, 1, 63);
        y.span(3, 5, 5);
        same("8: one at one place", y.prune(), 1);
        line("8", y, 1, 0, 2, 0, 63, 0, 99);
        line("8", y, 2, 0, -1, 5, 5, 7, 7);
    }

    private static void promise9Go() {
        LineLives x = with("0x+5@0-9;0x+6@10-99");
        same("9: to 99", x.go(99), 0);
        same("9: to 99 again", x.go(99), 99);
        same("9: the line then", x.lowest(3, x.count(0)), 1);
        same("9: the value then", x.value(3), 6);
        same("9: the tree then", x.node(1, 0), 1);
        same("9: to 10", x.go(10), 99);
        same("9: to 9", x.go(9), 10);
        same("9: the value then", x.value(3), 5);
        same("9: to 0", x.go(0), 9);
        for (int moment : new int[] {-1, 100, MOST, LEAST}) {
            Checks.refused("9: go(" + moment + ")", x, ARGUMENT, () -> x.go(moment));
        }
    }

    // ---- texts

    private static void promise10Append() {
        LineLives x = new LineLives();
        same("10: the least code", x.append(33), 1);
        same("10: the greatest code", x.append(126), 2);
        for (int code : new int[] {32, 127, 0, -1, MOST, LEAST}) {
            Checks.refused("10: append(" + code + ")", x, ARGUMENT, () -> x.append(code));
        }
        for (int length = 3; length <= 60; length++) {
            same("10: another one", x.append(64), length);
        }
        Checks.refused("10: one too many", x, STATE, () -> x.append(64));
        Checks.refused("10: the argument comes first", x, ARGUMENT, () -> x.append(127));
        same("10: no state is saved", x.count(8), 0);
    }

    private static void promise11ClearBuffer() {
        LineLives x = typed("1x+0;");
        same("11: the length", x.clearBuffer(), 5);
        same("11: then it is empty", x.clearBuffer(), 0);
        type(x, "2x+0");
        same("11: nothing of it is left", x.addAll(), 1);
        same("11: the new one", x.line(0, 0), 2);
        type(x, "123456789012345678901234567890123456789012345678901234567890");
        same("11: a full one", x.clearBuffer(), 60);
        same("11: no state is saved", x.count(8), 1);
    }

    /** The texts, the index of the first error, and whether the text is complete. */
    private static final Object[][] TEXTS = {
        {"", 0, false}, {"0x+0", 4, true}, {"-0x-0", 5, true}, {"99x+9999", 8, true}, {"-99x-9999", 9, true},
        {"100x", 2, false}, {"+1x+1", 0, false}, {"--1", 1, false}, {"-x", 1, false}, {"01", 1, false},
        {"-00", 2, false}, {"1y", 1, false}, {"1X+0", 1, false}, {"x", 0, false}, {"1", 1, false},
        {"-", 1, false}, {"1x", 2, false}, {"1x+", 3, false}, {"1x1", 2, false}, {"1x+-", 3, false},
        {"1x+00", 4, false}, {"1x+05", 4, false}, {"1x+99999", 7, false}, {"1x+10000", 7, false}, {"1x+0x", 4, false},
        {"1x+0@", 5, false}, {"1x+0@0", 6, false}, {"1x+0@00", 6, false}, {"1x+0@-", 5, false},
        {"1x+0@1;", 6, false}, {"1x+0@1-", 7, false}, {"1x+0@100", 7, false}, {"1x+0@99-99", 10, true},
        {"1x+0@99-98", 9, false}, {"1x+0@5-4", 8, false}, {"1x+0@5-4;", 8, false}, {"1x+0@5-45", 9, true},
        {"1x+0@5-0", 7, false}, {"1x+0@5-5", 8, true}, {"1x+0@5-5;", 9, false}, {"1x+0@5-57", 9, true},
        {"1x+0@0-0", 8, true}, {"1x+0@0-00", 8, false}, {"1x+0@0-99", 9, true}, {"1x+0@0-100", 9, false},
        {"1x+0@0-5", 8, true}, {"1x+0@50-4", 8, false}, {"1x+0@55-5", 9, false}, {"1x+0@55-54", 9, false},
        {"1x+0@55-55", 10, true}, {"1x+0@55-555", 10, false}, {"1x+0@55-6", 9, false}, {"1x+0@55-60", 10, true},
        {"1x+0@11-10", 9, false}, {"1x+0@10-1", 9, false}, {"1x+0@10-10", 10, true}, {"1x+0@9-9", 8, true}, {"1x+0@9-09", 7, false},
        {"1x+0@1--", 7, false}, {"1x+0@1-2@", 8, false}, {"1x+0@1-2-", 8, false},
        {"1x+0@20-3;", 9, false}, {";", 0, false}, {"1x+0;", 5, false}, {"1x+0;;", 5, false},
        {"1x+0;@", 5, false}, {"1x+0;-1x-1", 10, true}, {"1x+0@1-2;-3x-4@5-6", 18, true},
        {"1x-5;2x+01", 9, false}, {"1x+0@50-60;1x+0@5-6", 19, true}, {"-1x+0;1x+0", 10, true},
        {"1x/0", 2, false}, {"1x+:", 3, false}, {"1x+/", 3, false}, {"/", 0, false}, {":", 0, false},
    };

    private static void promise12FirstError() {
        for (Object[] text : TEXTS) {
            LineLives x = typed((String) text[0]);
            same("12: \"" + text[0] + "\"", x.firstError(), (Integer) text[1]);
            same("12: again", x.firstError(), (Integer) text[1]);
            same("12: no state is saved", x.count(8), 0);
            same("12: the buffer is kept", x.clearBuffer(), ((String) text[0]).length());
        }
        same("12: more lines than there may be", typed("0x+0;".repeat(12)).firstError(), 60);
        LineLives full = withLines(20);
        type(full, "0x+0");
        same("12: how many there are does not matter", full.firstError(), 4);
    }

    private static void promise13AddAll() {
        for (Object[] text : TEXTS) {
            LineLives x = typed((String) text[0]);
            if ((Boolean) text[2]) {
                same("13: \"" + text[0] + "\"", x.addAll(), ((String) text[0]).split(";").length);
                same("13: the buffer is cleared", x.clearBuffer(), 0);
            } else {
                Checks.refused("13: \"" + text[0] + "\"", x, ARGUMENT, () -> x.addAll());
            }
        }
        LineLives x = with("-7x-8;7x+8@5-60;-0x-0;99x-9999@0-0;0x+10@99-99");
        line("13", x, 0, -7, -8, 0, 63, 0, 99);
        line("13", x, 1, 7, 8, 0, 63, 5, 60);
        line("13", x, 2, 0, 0, 0, 63, 0, 99);
        line("13", x, 3, 99, -9999, 0, 63, 0, 0);
        line("13", x, 4, 0, 10, 0, 63, 99, 99);
        same("13: one state is saved", x.count(8), 1);
        type(x, "1x+1");
        same("13: behind the others", x.addAll(), 6);
        line("13", x, 5, 1, 1, 0, 63, 0, 99);
        same("13: as one call", x.undo(), 1);
        same("13: undone", x.count(1), 5);
        same("13: undone all", x.undo() + x.count(1), 0);
        LineLives full = withLines(17);
        type(full, "1x+1;1x+2;1x+3;1x+4");
        Checks.refused("13: one too many, none is added", full, STATE, () -> full.addAll());
        full.clearBuffer();
        type(full, "1x+1;1x+2;1x+3");
        same("13: just 20", full.addAll(), 20);
        type(full, "1x+1");
        Checks.refused("13: another one", full, STATE, () -> full.addAll());
        full.append(';');
        Checks.refused("13: the argument comes first", full, ARGUMENT, () -> full.addAll());
        full.clearBuffer();
        Checks.refused("13: empty", full, ARGUMENT, () -> full.addAll());
    }

    private static void promise14Undo() {
        LineLives x = new LineLives();
        Checks.refused("14: nothing saved", x, STATE, () -> x.undo());
        for (int i = 0; i < 8; i++) {
            x.add(1, i);
            same("14: saved states", x.count(8), Math.min(i + 1, 6));
        }
        type(x, "1x+");
        for (int left = 5; left >= 0; left--) {
            same("14: left", x.undo(), left);
            same("14: saved states", x.count(8), left);
            same("14: lines", x.count(1), left + 2);
        }
        Checks.refused("14: the oldest ones were dropped", x, STATE, () -> x.undo());
        same("14: the buffer is as it was", x.clearBuffer(), 3);
        line("14", x, 1, 1, 1, 0, 63, 0, 99);
        LineLives y = with("1x+1");
        type(y, "12");
        y.undo();
        same("14: the buffer is not brought back", y.clearBuffer(), 2);
    }

    /** One of the undoable methods. */
    private interface Change {
        void on(LineLives x);
    }

    private static void promise14UndoOfEachMethod() {
        Change[] changes = {
            x -> x.add(5, 5), x -> x.span(1, 3, 9), x -> x.live(1, 3, 9), x -> x.lift(1, 7), x -> x.turn(1, 7, 7),
            x -> x.remove(0), x -> x.prune(), x -> x.go(7), x -> x.span(1, 0, 63), x -> x.live(0, 0, 99),
            x -> x.lift(1, 0), x -> x.turn(1, 7, -1), x -> x.go(0),
        };
        for (int i = 0; i < changes.length; i++) {
            LineLives x = with("1x+0;-1x+63;0x+99");
            long before = x.digest();
            changes[i].on(x);
            same("14: change " + i + " saves a state", x.count(8), 2);
            same("14: change " + i + ", the digest then", x.digest(), PlainDigest.of(x, ""));
            same("14: change " + i + " undone", x.undo(), 1);
            same("14: change " + i + ", the digest", x.digest(), before);
            same("14: the one before it", x.undo(), 0);
            same("14: no lines", x.count(1), 0);
        }
        LineLives x = with("1x+0;-1x+63");
        x.go(7);
        x.remove(0);
        x.undo();
        same("14: the moment is kept apart", x.count(0), 7);
        same("14: the lines are back", x.count(1), 2);
        x.undo();
        same("14: the moment is back", x.count(0), 0);
    }

    // ---- looks

    private static void promise15Line() {
        LineLives x = with("1x+0;-1x+63;0x+20@5-9;0x+99@50-60;0x+99");
        line("15", x, 0, 1, 0, 0, 63, 0, 99, 32, 1, 0);
        line("15", x, 1, -1, 63, 0, 63, 0, 99, 32, 1, 0);
        line("15", x, 2, 0, 20, 0, 63, 5, 9, 0, 0, 5);
        line("15", x, 3, 0, 99, 0, 63, 50, 60, 0, 0, -1);
        line("15", x, 4, 0, 99, 0, 63, 0, 99, 0, 0, -1);
        x.go(7);
        same("15: at 7", x.line(0, 6), 20 + 1);
        same("15: at 7", x.line(1, 6), 21);
        same("15: at 7", x.line(2, 6), 22);
        same("15: at 7", x.line(2, 7), 1);
        same("15: the first of all moments, not of those to come", x.line(0, 8), 0);
        x.span(3, 63, 63);
        x.lift(3, -200);
        same("15: at the last place alone", x.line(3, 8), 50);
        LineLives y = with("0x+5@0-98;0x+6");
        same("15: when the other one is gone", y.line(1, 8), 99);
        y.span(0, 1, 63);
        same("15: where the other one is not", y.line(1, 8), 0);
        y.live(0, 20, 30);
        y.live(1, 20, 30);
        same("15: at the place that it has alone", y.line(1, 8), 20);
        y.span(0, 0, 63);
        same("15: nowhere then", y.line(1, 8), -1);
        same("15: behind the only moment of a lower one", with("0x+0@5-5;0x+1@5-99").line(1, 8), 6);
        y.span(0, 1, 63);
        same("15: nodes", y.line(0, 7), 0);
        y.go(20);
        same("15: nodes", y.line(0, 7), 6);
        for (int what : new int[] {-1, 9, MOST, LEAST}) {
            Checks.refused("15: line(0, " + what + ")", x, ARGUMENT, () -> x.line(0, what));
        }
        for (int line : new int[] {-1, 5, MOST, LEAST}) {
            Checks.refused("15: no line " + line, x, INDEX, () -> x.line(line, 0));
            Checks.refused("15: the index comes first", x, INDEX, () -> x.line(line, 9));
        }
    }

    private static void promise16Lowest() {
        LineLives x = with("1x+0;-1x+62;0x+31@5-9;0x+30@9-9");
        same("16: at the first place", x.lowest(0, 0), 0);
        same("16: of like ones the first one", x.lowest(31, 5), 0);
        same("16: behind it", x.lowest(32, 5), 1);
        same("16: at 9", x.lowest(31, 9), 3);
        same("16: at 10", x.lowest(31, 10), 0);
        same("16: at the last place", x.lowest(63, 99), 1);
        x.remove(3);
        x.remove(1);
        x.remove(0);
        same("16: before its life", x.lowest(0, 4), -1);
        same("16: at its first moment", x.lowest(0, 5), 0);
        same("16: at its last moment", x.lowest(0, 9), 0);
        same("16: behind its life", x.lowest(0, 10), -1);
        x.span(0, 20, 21);
        same("16: before its span", x.lowest(19, 5), -1);
        same("16: its first place", x.lowest(20, 5), 0);
        same("16: its last place", x.lowest(21, 5), 0);
        same("16: behind its span", x.lowest(22, 5), -1);
        int[][] wrong = {{-1, 0}, {64, 0}, {0, -1}, {0, 100}, {MOST, 0}, {LEAST, 0}, {0, MOST}, {0, LEAST}};
        for (int[] w : wrong) {
            Checks.refused("16: lowest(" + w[0] + ", " + w[1] + ")", x, ARGUMENT, () -> x.lowest(w[0], w[1]));
        }
    }

    private static void promise17Value() {
        LineLives x = with("1x+0;-1x+62;99x-9999@9-9;-99x+9999@8-8");
        same("17: at 0", x.value(0), 0);
        same("17: at 31", x.value(31), 31);
        same("17: at 63", x.value(63), -1);
        x.go(9);
        same("17: at the moment 9", x.value(63), -3762);
        same("17: at the moment 9", x.value(0), -9999);
        x.live(0, 0, 0);
        x.live(1, 0, 0);
        x.go(10);
        for (int place : new int[] {0, 31, 63}) {
            Checks.refused("17: no line at " + place, x, STATE, () -> x.value(place));
        }
        for (int place : new int[] {-1, 64, MOST, LEAST}) {
            Checks.refused("17: value(" + place + ")", x, ARGUMENT, () -> x.value(place));
        }
    }

    private static void promise18Ranked() {
        LineLives x = with("0x+5;0x+3;0x+5;0x+1@5-5;-1x+8");
        int[] at0 = {1, 0, 2, 4};
        int[] at3 = {1, 0, 2, 4};
        int[] at5 = {1, 4, 0, 2};
        for (int rank = 0; rank < 4; rank++) {
            same("18: ranked(0, " + rank + ")", x.ranked(0, rank), at0[rank]);
            same("18: ranked(3, " + rank + ")", x.ranked(3, rank), at3[rank]);
            same("18: ranked(5, " + rank + ")", x.ranked(5, rank), at5[rank]);
        }
        same("18: not so many", x.ranked(5, 4), -1);
        same("18: not so many", x.ranked(5, MOST), -1);
        x.go(5);
        same("18: at another moment", x.ranked(5, 0), 3);
        same("18: at another moment", x.ranked(5, 4), 2);
        x.span(3, 0, 4);
        same("18: not in its span", x.ranked(5, 0), 1);
        same("18: in its span", x.ranked(4, 0), 3);
        same("18: without lines", new LineLives().ranked(0, 0), -1);
        int[][] wrong = {{-1, 0}, {64, 0}, {0, -1}, {MOST, 0}, {LEAST, 0}, {0, LEAST}};
        for (int[] w : wrong) {
            Checks.refused("18: ranked(" + w[0] + ", " + w[1] + ")", x, ARGUMENT, () -> x.ranked(w[0], w[1]));
        }
    }

    private static void promise19Node() {
        LineLives x = new LineLives();
        int[][] places = {
            {1, 0, 63, 31}, {2, 0, 31, 15}, {3, 32, 63, 47}, {5, 16, 31, 23}, {63, 62, 63, 62}, {32, 0, 1, 0},
            {64, 0, 0, 0}, {65, 1, 1, 1}, {127, 63, 63, 63},
        };
        for (int[] p : places) {
            for (int what = 1; what <= 3; what++) {
                same("19: node(" + p[0] + ", " + what + ")", x.node(p[0], what), p[what]);
            }
            node("19", x, p[0], -1, 0);
        }
        LineLives y = with("0x+10;1x-20;-1x+41;0x+9@1-1;0x+30");
        // 1 is above 0 at 31, and below it at 0; 2 is like 0 at 31, and below it at 63; 4 is above 0.
        node("19: at 0", y, 1, 0, 4);
        node("19: at 0", y, 2, 1, 1);
        node("19: at 0", y, 3, 2, 1);
        same("19: steps", y.count(5), 6);
        y.go(1);
        // 3 takes the place of 0, which goes nowhere.
        node("19: at 1", y, 1, 3, 5);
        for (int node : new int[] {0, -1, 128, MOST, LEAST}) {
            Checks.refused("19: no node " + node, y, INDEX, () -> y.node(node, 0));
            Checks.refused("19: the index comes first", y, INDEX, () -> y.node(node, 5));
        }
        for (int what : new int[] {-1, 5, MOST, LEAST}) {
            Checks.refused("19: node(1, " + what + ")", y, ARGUMENT, () -> y.node(1, what));
        }
    }

    private static void promise19NodeTies() {
        LineLives same = with("0x+5;0x+5");
        node("19: like lines", same, 1, 0, 2);
        same("19: like lines, steps", same.count(5), 2);
        LineLives first = with("1x+0;0x+0");
        node("19: the first one wins at the first place", first, 1, 1, 2);
        node("19: the first one wins at the first place", first, 2, 0, 1);
        LineLives last = with("-1x+63;0x+0");
        node("19: the first one wins at the last place", last, 1, 1, 2);
        node("19: the first one wins at the last place", last, 2, -1, 0);
        node("19: the first one wins at the last place", last, 3, 0, 1);
        LineLives middle = with("1x+0;0x+31");
        node("19: the first one wins at the middle", middle, 1, 0, 2);
        node("19: the first one wins at the middle", middle, 2, -1, 0);
        node("19: the first one wins at the middle", middle, 3, 1, 1);
        LineLives later = with("0x+0;1x+0");
        node("19: the second one loses at the first place", later, 1, 0, 2);
        same("19: the second one loses at the first place", later.count(5), 2);
    }

    private static void promise19NodeSpans() {
        LineLives x = with("0x+5");
        x.span(0, 1, 63);
        for (int node : new int[] {65, 33, 17, 9, 5, 3}) {
            node("19: of 1 to 63", x, node, 0, 1);
        }
        same("19: of 1 to 63, nodes", x.count(6), 6);
        same("19: of 1 to 63, steps", x.count(5), 6);
        LineLives y = with("0x+5;0x+4;0x+5;0x+3");
        for (int line = 0; line < 4; line++) {
            y.span(line, 5, 5);
        }
        y.span(3, 5, 7);
        node("19: at one place", y, 69, 3, 4);
        node("19: at one place", y, 35, 3, 1);
        same("19: at one place, nodes", y.count(6), 2);
        same("19: at one place, steps", y.count(5), 5);
        LineLives z = with("1x+0;0x+20;0x+10");
        z.span(0, 0, 31);
        z.span(1, 16, 63);
        // 0 into 2, 1 into 5 and 3, 2 into 1.
        node("19: spans side by side", z, 2, 0, 1);
        node("19: spans side by side", z, 5, 1, 1);
        node("19: spans side by side", z, 3, 1, 1);
        node("19: spans side by side", z, 1, 2, 1);
        same("19: the line 1 in two nodes", z.line(1, 7), 2);
        LineLives end = with("0x+5");
        end.span(0, 63, 63);
        same("19: the last node, steps", end.node(127, 4), 1);
        node("19: the last node", end, 127, 0, 1);
        same("19: the last node, all steps", end.count(5), 1);
        same("19: the last node, the digest", end.digest(), PlainDigest.of(end, ""));
        LineLives deep = with("1x+0;-1x+62");
        deep.span(1, 24, 31);
        deep.span(0, 16, 31);
        type(deep, "2x-60");
        deep.addAll();
        // 2 is put into 1; 0 into 5; 1 into 11.
        node("19: deep", deep, 5, 0, 1);
        node("19: deep", deep, 11, 1, 1);
        node("19: deep", deep, 1, 2, 1);
    }

    private static void promise20Row() {
        LineLives x = with("1x+0;-1x+63");
        row("20", x, 0, 0, 32, 0);
        row("20", x, 1, 32, 32, 1);
        row("20", x, 2, -1, -1, -1);
        row("20", x, MOST, -1, -1, -1);
        x.span(0, 1, 9);
        x.span(1, 20, 62);
        row("20", x, 0, 0, 1, -1);
        row("20", x, 1, 1, 9, 0);
        row("20", x, 2, 10, 10, -1);
        row("20", x, 3, 20, 43, 1);
        row("20", x, 4, 63, 1, -1);
        row("20", x, 5, -1, -1, -1);
        LineLives y = with("0x+5;0x+4@3-3;0x+5");
        y.span(1, 10, 19);
        y.go(3);
        row("20: a line with two rows", y, 0, 0, 10, 0);
        row("20: a line with two rows", y, 1, 10, 10, 1);
        row("20: a line with two rows", y, 2, 20, 44, 0);
        row("20: without lines", new LineLives(), 0, 0, 64, -1);
        LineLives z = with("0x+0;0x+0");
        z.span(0, 0, 31);
        z.span(1, 32, 63);
        same("20: like values of two lines are two rows", z.count(3), 2);
        int[][] wrong = {{-1, 0}, {0, -1}, {0, 3}, {LEAST, 0}, {0, MOST}, {0, LEAST}, {MOST, 3}};
        for (int[] w : wrong) {
            Checks.refused("20: row(" + w[0] + ", " + w[1] + ")", x, ARGUMENT, () -> x.row(w[0], w[1]));
        }
    }

    private static void promise21Sum() {
        LineLives x = with("1x+0;-1x+63;-1x+0@9-9");
        same("21: of all", x.sum(0, 63), 992);
        same("21: of one", x.sum(63, 63), 0);
        same("21: of some", x.sum(30, 33), 122);
        x.span(0, 0, 9);
        x.span(1, 60, 62);
        same("21: where there is none", x.sum(10, 59), 0);
        same("21: with places without one", x.sum(9, 60), 12);
        x.go(9);
        same("21: at the moment 9", x.sum(62, 63), -125);
        LineLives most = with("99x+9999");
        same("21: the greatest sum", most.sum(0, 63), 839520);
        int[][] wrong = {{-1, 5}, {5, 4}, {0, 64}, {64, 64}, {LEAST, 0}, {0, MOST}};
        for (int[] w : wrong) {
            Checks.refused("21: sum(" + w[0] + ", " + w[1] + ")", x, ARGUMENT, () -> x.sum(w[0], w[1]));
        }
    }

    private static void promise22Count() {
        LineLives x = with("1x+0;-1x+63;0x+99;0x+20@5-9;0x+99@7-7");
        int[] at0 = {0, 5, 3, 2, 0, 4, 2, 2, 1};
        for (int what = 0; what < at0.length; what++) {
            same("22: at 0, count(" + what + ")", x.count(what), at0[what]);
        }
        x.go(7);
        // 2 is gone after its step at 1; 3 takes the place of 0, which goes to 2; 4 is gone.
        int[] at7 = {7, 5, 5, 3, 0, 7, 3, 2, 2};
        for (int what = 0; what < at7.length; what++) {
            same("22: at 7, count(" + what + ")", x.count(what), at7[what]);
        }
        x.span(0, 5, 5);
        x.live(1, 0, 0);
        x.live(2, 0, 0);
        x.live(3, 0, 0);
        x.live(4, 0, 0);
        same("22: lives", x.count(2), 1);
        same("22: rows", x.count(3), 3);
        same("22: places without a line", x.count(4), 63);
        for (int what : new int[] {-1, 9, MOST, LEAST}) {
            Checks.refused("22: count(" + what + ")", x, ARGUMENT, () -> x.count(what));
        }
    }

    // ---- what would be

    private static void promise23IfAdded() {
        LineLives x = with("1x+0;-1x+63;0x-50@9-9");
        same("23: lower at some", x.ifAdded(0, 10), 42);
        same("23: like values do not count", x.ifAdded(1, 0), 0);
        same("23: by one", x.ifAdded(1, -1), 32);
        same("23: everywhere", x.ifAdded(0, -1), 64);
        same("23: nowhere", x.ifAdded(0, 31), 0);
        x.span(0, 0, 9);
        x.span(1, 0, 9);
        same("23: where there is none", x.ifAdded(99, 9999), 54);
        x.go(9);
        same("23: at the moment 9", x.ifAdded(99, 9999), 0);
        same("23: with 20 lines", withLines(20).ifAdded(-1, 1), 62);
        int[][] wrong = {{100, 0}, {-100, 0}, {0, 10000}, {0, -10000}, {MOST, 0}, {LEAST, 0}, {0, MOST}, {0, LEAST}};
        for (int[] w : wrong) {
            Checks.refused("23: ifAdded(" + w[0] + ", " + w[1] + ")", x, ARGUMENT, () -> x.ifAdded(w[0], w[1]));
        }
        same("23: nothing is added", x.count(1), 3);
    }

    private static void promise24Highest() {
        LineLives x = with("1x+0;-1x+63;0x-9999@9-9");
        same("24: a level one", x.highest(0), 30);
        same("24: a rising one", x.highest(2), -1);
        same("24: a falling one", x.highest(-99), 6236);
        same("24: it would be lowest", x.ifAdded(-99, 6236), 1);
        same("24: a higher one would not", x.ifAdded(-99, 6237), 0);
        x.go(9);
        same("24: none", x.highest(0), -10000);
        same("24: none that rises", x.highest(99), -10000);
        same("24: one that falls", x.highest(-1), -9937);
        LineLives least = with("0x-9998");
        same("24: the least one", least.highest(0), -9999);
        LineLives most = with("99x+9999");
        same("24: no more than 9999", most.highest(0), 9999);
        same("24: just below", most.highest(99), 9998);
        least.span(0, 0, 62);
        same("24: where there is none", least.highest(99), 9999);
        same("24: without lines", new LineLives().highest(-99), 9999);
        same("24: with 20 lines", withLines(20).highest(0), -1);
        for (int slope : new int[] {100, -100, MOST, LEAST}) {
            Checks.refused("24: highest(" + slope + ")", x, ARGUMENT, () -> x.highest(slope));
        }
    }

    private static void promise25Worth() {
        LineLives x = with("0x+5;0x+8;0x+6@9-9");
        same("25: the lowest one", x.worth(0), 192);
        same("25: one that is not lowest", x.worth(1), 0);
        same("25: one that does not live", x.worth(2), 0);
        x.go(9);
        same("25: with one between", x.worth(0), 64);
        x.go(0);
        x.span(0, 10, 11);
        same("25: at two places", x.worth(0), 6);
        same("25: alone at some places", x.worth(1), -1);
        x.live(1, 5, 5);
        same("25: alone", x.worth(0), -1);
        same("25: with no place at all where it is lowest", x.worth(1), 0);
        same("25: like lines", with("0x+5;0x+5").worth(0), 0);
        LineLives last = with("0x+5;0x+8");
        last.span(1, 0, 62);
        same("25: alone at the last place", last.worth(0), -1);
        for (int line : new int[] {-1, 3, MOST, LEAST}) {
            Checks.refused("25: no line " + line, x, INDEX, () -> x.worth(line));
        }
        same("25: nothing is removed", x.count(1), 3);
    }

    private static void promise26ChangesAt() {
        LineLives x = with("0x+5@0-50;0x+4@20-29;0x+9@0-98");
        x.span(1, 0, 9);
        same("26: another one comes", x.changesAt(0), 20);
        same("26: where it does not", x.changesAt(10), 51);
        x.go(20);
        same("26: it goes", x.changesAt(9), 30);
        x.go(29);
        same("26: it goes at once", x.changesAt(9), 30);
        x.go(51);
        same("26: none any more", x.changesAt(63), 99);
        x.go(99);
        same("26: nothing later", x.changesAt(63), -1);
        x.live(0, 99, 99);
        x.live(2, 0, 0);
        x.live(1, 0, 0);
        x.go(50);
        same("26: there is one", x.changesAt(63), 99);
        same("26: without lines", new LineLives().changesAt(0), -1);
        same("26: a like one does not change it", with("0x+5;0x+5@3-4").changesAt(0), -1);
        same("26: a like one with a lower number does", with("0x+5@3-4;0x+5").changesAt(0), 3);
        for (int place : new int[] {-1, 64, MOST, LEAST}) {
            Checks.refused("26: changesAt(" + place + ")", x, ARGUMENT, () -> x.changesAt(place));
        }
    }

    private static void promise27Meet() {
        LineLives x = with("1x+0;0x+30@5-5;1x+0;1x+1");
        same("27: behind a like value", x.meet(0, 1), 31);
        same("27: the other way", x.meet(1, 0), 0);
        same("27: with a like value the lower number", x.meet(2, 0), 0);
        same("27: never", x.meet(0, 2), -1);
        same("27: never", x.meet(0, 3), -1);
        same("27: always", x.meet(3, 0), 0);
        x.span(1, 40, 50);
        same("27: in the span of the other", x.meet(0, 1), 40);
        same("27: in the span of the one", x.meet(1, 0), -1);
        x.span(0, 0, 39);
        same("27: no place in both", x.meet(0, 1), -1);
        x.span(0, 0, 40);
        same("27: one place in both", x.meet(0, 1), 40);
        LineLives last = with("0x+0;-1x+62");
        same("27: at the last place", last.meet(0, 1), 63);
        Checks.refused("27: the same", x, ARGUMENT, () -> x.meet(3, 3));
        for (int line : new int[] {-1, 4, MOST, LEAST}) {
            Checks.refused("27: no line " + line, x, INDEX, () -> x.meet(0, line));
            Checks.refused("27: no line " + line, x, INDEX, () -> x.meet(line, 0));
            Checks.refused("27: the index comes first", x, INDEX, () -> x.meet(line, line));
        }
    }

    private static void promise28Mean() {
        Checks.same("28: without lines", (Object) new LineLives().mean(), 0.0);
        LineLives x = with("1x+0;-1x+63;-1x-1@9-9");
        Checks.same("28: of all", (Object) x.mean(), 15.5);
        x.span(0, 0, 2);
        x.span(1, 0, 2);
        Checks.same("28: of three", (Object) x.mean(), 1.0);
        x.span(0, 1, 2);
        x.span(1, 63, 63);
        Checks.same("28: of those with a line", (Object) x.mean(), 1.0);
        x.lift(0, 1);
        Checks.same("28: a share", (Object) x.mean(), 5.0 / 3);
        x.go(9);
        Checks.same("28: below 0", (Object) x.mean(), -32.5);
        LineLives zero = with("0x+0");
        Checks.same("28: 0", (Object) zero.mean(), 0.0);
    }

    private static void promise29Digest() {
        same("29: a new object", new LineLives().digest(), PlainDigest.of(new LineLives(), ""));
        // 31 * hash + v by hand over the 29 values of a new object.
        long hash = 2591;
        int[] values = {0, 0, 0, 1, 64, 0, 0, 0, 0, 0, 64, -1, 0, -1, -1, -1, -1, -1, -1, -1, -1, -1, -1, -1, -1,
            64, 9999, 0, 0};
        for (int value : values) {
            hash = 31 * hash + value;
        }
        same("29: a new object, by hand", new LineLives().digest(), hash);
        String[] texts = {"1x+0;-1x+63", "-99x-9999;99x+9999@5-60;0x+0@50-50", "3x-7;-2x+9;1x+1;0x-13@0-49;7x+3@50-99"};
        for (String text : texts) {
            same("29: " + text, with(text).digest(), PlainDigest.of(() -> with(text), ""));
            Supplier<LineLives> spans = () -> {
                LineLives x = with(text);
                x.span(0, 1, 21);
                x.span(1, 22, 62);
                type(x, "1x~!");
                return x;
            };
            same("29: " + text + ", spans", spans.get().digest(), PlainDigest.of(spans, "1x~!"));
            Supplier<LineLives> at50 = () -> {
                LineLives x = spans.get();
                x.go(50);
                return x;
            };
            LineLives x = at50.get();
            same("29: " + text + ", at 50", x.digest(), PlainDigest.of(at50, "1x~!"));
            same("29: nothing is changed", x.digest(), x.digest());
        }
        for (int offset = -40; offset <= 40; offset++) {
            LineLives x = new LineLives();
            x.add(offset * 2, offset * 249);
            x.span(0, 0, offset & 63);
            same("29: the bits of the mean " + x.mean(), x.digest(), PlainDigest.of(x, ""));
        }
    }
}
