/** The boundary cases of the promises 10 to 14: the buffer, lines as a text, and undo. */
final class TextsBoundaries extends Boundaries {
    @Override
    void tell() {
        append();
        clearBuffer();
        firstError();
        addAll();
        addAllIncomplete();
        addAllTooMany();
        undo();
        undoOfLooks();
        undoLeft();
    }

    /** 59 characters; with one of ";" or a digit behind it the buffer is full. */
    private static final String NEARLY_FULL = "0x+0;".repeat(11) + "0x+1";
    private static final String FULL = NEARLY_FULL + "2";

    private void append() {
        section("Promise 10: append");
        says("Appends a character to the buffer.");
        test("the first one", () -> {
            LineLives x = new LineLives();
            x.append('1');
            is("no error", x.firstError(), 1);
            is("length", x.clearBuffer(), 1);
        });
        test("the 60th one", () -> {
            LineLives x = typed(NEARLY_FULL);
            x.append('2');
            is("lines", x.addAll(), 12);
            line(x, 11, 0, 12);
        });
        test("it saves no state", () -> is(typed("1x+").count(8), 0));
        says("`code`: the character code, 33 to 126");
        range("code", 33, 126, (x, code) -> x.append(code));
        test("code 0 is refused", () -> refused(Boundaries::rich, ARGUMENT, x -> x.append(0)));
        test("code 127 + 256 is refused", () -> refused(Boundaries::rich, ARGUMENT, x -> x.append(383)));
        test("code of 1 plus 65536 is refused", () -> refused(Boundaries::rich, ARGUMENT, x -> x.append(65536 + '1')));
        test("code 33 is kept", () -> is(typed("!").digest(), PlainDigest.of(typed("!"), "!")));
        test("code 126 is kept", () -> is(typed("~").digest(), PlainDigest.of(typed("~"), "~")));
        says("Returns the new length of the buffer.");
        test("1 at first", () -> is(new LineLives().append('1'), 1));
        test("60 at last", () -> is(typed(NEARLY_FULL).append('2'), 60));
        test("1 after it is cleared", () -> {
            LineLives x = typed(FULL);
            x.clearBuffer();
            is(x.append('1'), 1);
        });
        test("1 after its lines are added", () -> {
            LineLives x = with("1x+1");
            is(x.append('1'), 1);
        });
        says("Throws `IllegalArgumentException` if code is not 33 to 126");
        test("with an empty buffer", () -> refused(LineLives::new, ARGUMENT, x -> x.append(32)));
        test("with a full buffer", () -> refused(() -> typed(FULL), ARGUMENT, x -> x.append(32)));
        says("Throws `IllegalStateException` if the buffer has 60 characters");
        test("with 60", () -> refused(() -> typed(FULL), STATE, x -> x.append('3')));
        test("with 60, again and again", () -> refused(() -> typed(FULL), STATE, x -> {
            for (int i = 0; i < 4; i++) {
                Checks.thrownBy(() -> x.append('3'));
            }
            x.append('3');
        }));
        test("with 59", () -> is(typed(NEARLY_FULL).append(';'), 60));
    }

    private void clearBuffer() {
        section("Promise 11: clearBuffer");
        says("Clears the buffer.");
        test("an empty one", () -> {
            LineLives x = new LineLives();
            x.clearBuffer();
            is("length", x.append('1'), 1);
        });
        test("a full one", () -> {
            LineLives x = typed(FULL);
            x.clearBuffer();
            is("no error", x.firstError(), 0);
            is("length", x.append('1'), 1);
        });
        test("one with an error", () -> {
            LineLives x = typed("!!");
            x.clearBuffer();
            type(x, "1x+1");
            is("no error", x.firstError(), 4);
            is("lines", x.addAll(), 1);
        });
        test("it saves no state", () -> {
            LineLives x = typed("1x");
            x.clearBuffer();
            is(x.count(8), 0);
        });
        test("lines and moment stay", () -> {
            LineLives x = rich();
            x.clearBuffer();
            Checks.same("contents", contents(x), contents(rich()));
        });
        says("Returns the length that it had.");
        test("0 in a new object", () -> is(new LineLives().clearBuffer(), 0));
        test("1", () -> is(typed("!").clearBuffer(), 1));
        test("60", () -> is(typed(FULL).clearBuffer(), 60));
        test("0 a second time", () -> {
            LineLives x = typed(FULL);
            x.clearBuffer();
            is(x.clearBuffer(), 0);
        });
        test("0 after its lines are added", () -> is(with("1x+1").clearBuffer(), 0));
    }

    private void firstError() {
        section("Promise 12: firstError");
        says("Finds the first syntax error of the buffer.");
        test("of several ones", () -> is(typed("1x?!?").firstError(), 2));
        test("of one that the next character seems to mend", () -> is(typed("1xx+1").firstError(), 2));
        test("of two lines with errors", () -> is(typed("1x+01;2x+02").firstError(), 4));
        test("it is found again", () -> {
            LineLives x = typed("1x+1;2y");
            is("once", x.firstError(), 6);
            is("twice", x.firstError(), 6);
        });
        test("more characters do not change it", () -> {
            LineLives x = typed("1y");
            is("before", x.firstError(), 1);
            type(x, "x+1;1x+1");
            is("after", x.firstError(), 1);
        });
        test("nothing is changed", () -> changesNothing(Boundaries::rich, x -> x.firstError()));
        test("nothing is changed with an error", () -> changesNothing(() -> typed("1y"), x -> x.firstError()));
        says("Returns the index of the first character that is a syntax error");
        test("0", () -> is(typed("x+1").firstError(), 0));
        test("59", () -> is(typed(NEARLY_FULL + "x").firstError(), 59));
        test("the last one", () -> is(typed("1x+1x").firstError(), 4));
        says("the length of the buffer if there is none");
        test("of an empty one", () -> is(new LineLives().firstError(), 0));
        test("of one character", () -> is(typed("-").firstError(), 1));
        test("of a full one", () -> is(typed(FULL).firstError(), 60));
        test("of a full one that goes on", () -> is(typed(NEARLY_FULL + ";").firstError(), 60));
        test("of complete lines", () -> is(typed("1x+1@2-3;-4x-5").firstError(), 14));
        test("of a cleared one", () -> {
            LineLives x = typed("?");
            x.clearBuffer();
            is(x.firstError(), 0);
        });
    }

    private void addAll() {
        section("Promise 13: addAll");
        says("Adds the lines in the buffer, all or none, and clears the buffer.");
        test("one", () -> line(with("-1x-2@3-4"), 0, -1, -2, 0, 63, 3, 4));
        test("12", () -> {
            LineLives x = with(FULL);
            is("lines", x.count(1), 12);
            line(x, 0, 0, 0, 0, 63, 0, 99);
            line(x, 10, 0, 0, 0, 63, 0, 99);
            line(x, 11, 0, 12, 0, 63, 0, 99);
        });
        test("none, if the last one is not complete", () ->
                refused(() -> typed("1x+1;2x+2;3x+"), ARGUMENT, x -> x.addAll()));
        test("none, if there is no room for the last one", () -> refused(() -> {
            LineLives x = levels(18);
            type(x, "1x+1;2x+2;3x+3");
            return x;
        }, STATE, x -> x.addAll()));
        test("the buffer is cleared", () -> is(with("1x+1").clearBuffer(), 0));
        test("nothing is added twice", () -> refused(() -> with("1x+1"), ARGUMENT, x -> x.addAll()));
        test("the buffer is kept if none is added", () -> {
            LineLives x = full();
            Checks.same("throws", Checks.thrownBy(() -> x.addAll()), STATE);
            is("length", x.clearBuffer(), 4);
        });
        says("Undoable, as one call.");
        test("one line undone", () -> undone(() -> typed("1x+1"), x -> x.addAll()));
        test("12 lines undone", () -> undone(() -> typed(FULL), x -> x.addAll()));
        test("the last six of 20 undone", () -> undone(() -> {
            LineLives x = levels(14);
            type(x, "1x+1;1x+2;1x+3;1x+4;1x+5;1x+6");
            return x;
        }, x -> x.addAll()));
        test("one state is saved", () -> is(with(FULL).count(8), 1));
        test("undone, the buffer is still cleared", () -> {
            LineLives x = with("1x+1");
            x.undo();
            is(x.clearBuffer(), 0);
        });
        says("Returns how many lines there are then.");
        test("one", () -> is(typed("1x+1").addAll(), 1));
        test("20", () -> {
            LineLives x = levels(8);
            type(x, FULL);
            is(x.addAll(), 20);
        });
    }

    private void addAllIncomplete() {
        says("Throws `IllegalArgumentException` if the buffer is not complete lines as a text");
        test("an empty one", () -> refused(LineLives::new, ARGUMENT, x -> x.addAll()));
        test("a cleared one", () -> refused(() -> {
            LineLives x = typed("1x+1");
            x.clearBuffer();
            return x;
        }, ARGUMENT, x -> x.addAll()));
        incomplete("-");
        incomplete("1");
        incomplete("1x");
        incomplete("1x+");
        incomplete("1x+1@");
        incomplete("1x+1@5");
        incomplete("1x+1@5-");
        incomplete("1x+1@50-6");
        incomplete("1x+1;");
        incomplete(";");
        incomplete("1x+1;2x+2;");
        incomplete("1x+1;;2x+2");
        incomplete("1x+1?");
        incomplete("?1x+1");
        incomplete(NEARLY_FULL + ";");
        incomplete(NEARLY_FULL + "?");
    }

    private void incomplete(String text) {
        test(text, () -> refused(() -> typed(text), ARGUMENT, x -> x.addAll()));
    }

    private void addAllTooMany() {
        says("Throws `IllegalStateException` if there would be more than 20");
        test("20 and one", () -> refused(Boundaries::full, STATE, x -> x.addAll()));
        test("19 and one", () -> {
            LineLives x = levels(19);
            type(x, "1x+1");
            is(x.addAll(), 20);
        });
        test("19 and two", () -> refused(() -> {
            LineLives x = levels(19);
            type(x, "1x+1;1x+2");
            return x;
        }, STATE, x -> x.addAll()));
        test("9 and 12", () -> refused(() -> {
            LineLives x = levels(9);
            type(x, FULL);
            return x;
        }, STATE, x -> x.addAll()));
        test("after one is removed there is room", () -> {
            LineLives x = full();
            x.remove(0);
            is(x.addAll(), 20);
        });
        test("after one is undone there is room", () -> {
            LineLives x = levels(20);
            type(x, "1x+1");
            x.undo();
            is(x.addAll(), 20);
        });
    }

    private void undo() {
        section("Promise 14: undo");
        says("Restores the latest saved state, and drops it.");
        test("the latest one first", () -> {
            LineLives x = levels(1);
            x.lift(0, 5);
            x.lift(0, 10);
            x.undo();
            line(x, 0, 0, 5);
            x.undo();
            line(x, 0, 0, 0);
        });
        test("no lines", () -> {
            LineLives x = levels(1);
            x.undo();
            is("lines", x.count(1), 0);
            is("lowest", x.lowest(0, 0), NONE);
        });
        test("20 lines", () -> {
            LineLives x = levels(20);
            x.prune();
            x.undo();
            is("lines", x.count(1), 20);
            for (int line = 0; line < 20; line++) {
                line(x, line, 0, line, 0, 63, 0, 99);
            }
        });
        test("what it restores is not changed later", () -> {
            LineLives x = levels(2);
            x.go(5);
            x.lift(1, 7);
            x.span(0, 3, 3);
            x.undo();
            x.undo();
            x.undo();
            line(x, 0, 0, 0, 0, 63, 0, 99);
            line(x, 1, 0, 1, 0, 63, 0, 99);
            is("moment", x.count(0), 0);
        });
        test("an undone state can't be had again", () -> refused(() -> {
            LineLives x = levels(1);
            x.undo();
            return x;
        }, STATE, x -> x.undo()));
        test("a new state after an undone one", () -> {
            LineLives x = levels(2);
            x.undo();
            x.add(9, 9);
            is("left", x.undo(), 1);
            is("lines", x.count(1), 1);
        });
    }

    private void undoOfLooks() {
        says("Restores the latest saved state");
        test("the tree is that of the restored state", () -> {
            LineLives x = levels(1);
            x.add(0, -5);
            node(x, 1, 1, 2);
            x.undo();
            node(x, 1, 0, 1);
        });
        test("the rows are those of the restored state", () -> {
            LineLives x = levels(1);
            x.span(0, 1, 1);
            is("rows", x.count(3), 3);
            x.undo();
            is("rows", x.count(3), 1);
        });
        test("the first moments are those of the restored state", () -> {
            LineLives x = levels(1);
            x.live(0, 9, 9);
            is("then", x.line(0, 8), 9);
            x.undo();
            is("restored", x.line(0, 8), 0);
        });
    }

    private void undoLeft() {
        says("Returns how many saved states are left.");
        test("none", () -> is(levels(1).undo(), 0));
        test("five", () -> is(levels(6).undo(), 5));
        test("five, if there were more", () -> is(levels(20).undo(), 5));
        test("five to none", () -> {
            LineLives x = full();
            for (int left = 5; left >= 0; left--) {
                is("left", x.undo(), left);
            }
        });
        says("Throws `IllegalStateException` if there is none");
        test("in a new object", () -> refused(LineLives::new, STATE, x -> x.undo()));
        test("with a text alone", () -> refused(() -> typed("1x+1"), STATE, x -> x.undo()));
        test("after all are undone", () -> refused(() -> {
            LineLives x = rich();
            while (x.count(8) > 0) {
                x.undo();
            }
            return x;
        }, STATE, x -> x.undo()));
        test("after a call that threw", () -> refused(() -> {
            LineLives x = new LineLives();
            Checks.thrownBy(() -> x.go(100));
            return x;
        }, STATE, x -> x.undo()));
    }
}
