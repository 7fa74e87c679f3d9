/** The boundary cases of the promises 1 to 9: a new object, and the calls that change lines. */
final class LinesBoundaries extends Boundaries {
    @Override
    void tell() {
        newObject();
        add();
        addRefused();
        span();
        live();
        lift();
        turn();
        turnRefused();
        remove();
        prune();
        pruneMany();
        go();
    }

    private void newObject() {
        section("Promise 1: A new object");
        says("Creates no lines, at the moment 0, with an empty buffer.");
        test("no lines", () -> is(new LineLives().count(1), 0));
        test("no line 0", () -> refused(LineLives::new, INDEX, x -> x.line(0, 0)));
        test("no line anywhere", () -> {
            LineLives x = new LineLives();
            row(x, 0, 0, 64, NONE);
            is("places without a line", x.count(4), 64);
        });
        test("the moment 0", () -> is(new LineLives().go(5), 0));
        test("an empty buffer", () -> is(new LineLives().clearBuffer(), 0));
        test("no error in it", () -> is(new LineLives().firstError(), 0));
        test("nothing to add", () -> refused(LineLives::new, ARGUMENT, x -> x.addAll()));
        test("nothing to undo", () -> refused(LineLives::new, STATE, x -> x.undo()));
        test("nothing of another object", () -> {
            LineLives other = full();
            LineLives x = new LineLives();
            is("lines", x.count(1), 0);
            is("moment", x.count(0), 0);
            is("saved states", x.count(8), 0);
            is("buffer", x.clearBuffer(), 0);
            is("lines of the other one", other.count(1), 20);
        });
    }

    private void add() {
        section("Promise 2: add");
        says("Adds a line over all places and moments.");
        test("the first place and moment", () -> is(with("1x+5").lowest(0, 0), 0));
        test("the last place and moment", () -> is(with("1x+5").lowest(63, 99), 0));
        test("its span and its life", () -> {
            LineLives x = new LineLives();
            x.add(1, 2);
            line(x, 0, 1, 2, 0, 63, 0, 99);
        });
        test("its span and its life where a removed one had others", () -> {
            LineLives x = levels(3);
            x.span(2, 5, 6);
            x.live(2, 7, 8);
            x.remove(2);
            x.add(1, 2);
            line(x, 2, 1, 2, 0, 63, 0, 99);
        });
        test("at another moment it has all moments too", () -> {
            LineLives x = new LineLives();
            x.go(99);
            x.add(1, 2);
            line(x, 0, 1, 2, 0, 63, 0, 99);
        });
        says("Undoable.");
        test("the first line undone", () -> undone(LineLives::new, x -> x.add(1, 2)));
        test("the 20th line undone", () -> undone(() -> levels(19), x -> x.add(1, 2)));
        says("`slope`: -99 to 99");
        range("slope", -99, 99, (x, slope) -> x.add(slope, 0));
        test("slope -99 is kept", () -> is(added(-99, 0).line(0, 0), -99));
        test("slope 99 is kept", () -> is(added(99, 0).line(0, 0), 99));
        says("`offset`: -9999 to 9999");
        range("offset", -9999, 9999, (x, offset) -> x.add(0, offset));
        test("offset -9999 is kept", () -> is(added(0, -9999).line(0, 1), -9999));
        test("offset 9999 is kept", () -> is(added(0, 9999).line(0, 1), 9999));
        says("Returns its number.");
        test("the first one", () -> is(new LineLives().add(1, 2), 0));
        test("the 20th one", () -> is(levels(19).add(1, 2), 19));
        test("after one is removed", () -> {
            LineLives x = levels(5);
            x.remove(0);
            is(x.add(1, 2), 4);
        });
    }

    private void addRefused() {
        says("Throws `IllegalArgumentException` if an argument is out of range");
        test("both", () -> refused(Boundaries::rich, ARGUMENT, x -> x.add(100, -10000)));
        test("the first one alone", () -> refused(Boundaries::rich, ARGUMENT, x -> x.add(-100, 9999)));
        test("the second one alone", () -> refused(Boundaries::rich, ARGUMENT, x -> x.add(99, 10000)));
        says("Throws `IllegalStateException` if there are 20 lines");
        test("with 20", () -> refused(Boundaries::full, STATE, x -> x.add(0, 0)));
        test("with 19", () -> is(levels(19).add(0, 0), 19));
        test("with 20 that do not live", () -> refused(() -> {
            LineLives x = levels(20);
            for (int i = 0; i < 15; i++) {
                x.live(i, 50, 60);
            }
            return x;
        }, STATE, x -> x.add(0, 0)));
        test("after the 20th one is undone", () -> {
            LineLives x = levels(20);
            x.undo();
            is(x.add(0, 0), 19);
        });
        test("after 19 of 20 are pruned", () -> {
            LineLives x = levels(20);
            x.prune();
            is(x.add(0, 0), 1);
        });
    }

    private static LineLives added(int slope, int offset) {
        LineLives x = new LineLives();
        x.add(slope, offset);
        return x;
    }

    private void span() {
        section("Promise 3: span");
        says("Changes the span of a line.");
        test("just that", () -> {
            LineLives x = with("1x+2@3-4;5x+6@7-8;9x+10");
            x.span(1, 20, 30);
            line(x, 0, 1, 2, 0, 63, 3, 4);
            line(x, 1, 5, 6, 20, 30, 7, 8);
            line(x, 2, 9, 10, 0, 63, 0, 99);
        });
        test("to the first place alone", () -> {
            LineLives x = with("0x+0");
            x.span(0, 0, 0);
            is("at 0", x.lowest(0, 0), 0);
            is("at 1", x.lowest(1, 0), NONE);
        });
        test("to the last place alone", () -> {
            LineLives x = with("0x+0");
            x.span(0, 63, 63);
            is("at 63", x.lowest(63, 0), 0);
            is("at 62", x.lowest(62, 0), NONE);
        });
        test("to more places again", () -> {
            LineLives x = with("0x+0");
            x.span(0, 63, 63);
            x.span(0, 0, 63);
            is(x.line(0, 6), 64);
        });
        says("Undoable.");
        test("undone", () -> undone(Boundaries::rich, x -> x.span(0, 1, 1)));
        test("the same one undone", () -> undone(Boundaries::rich, x -> x.span(0, 0, 63)));
        says("`line`: its number");
        lineNumber("line", (x, line) -> x.span(line, 1, 2));
        says("`first`: 0 to 63");
        range("first", 0, 63, (x, first) -> x.span(0, first, 63));
        says("`last`: first to 63");
        range("last of 0", 0, 63, (x, last) -> x.span(0, 0, last));
        range("last of 30", 30, 63, (x, last) -> x.span(0, 30, last));
        range("last of 63", 63, 63, (x, last) -> x.span(0, 63, last));
        says("Returns how many places it had.");
        test("64", () -> is(with("0x+0").span(0, 5, 5), 64));
        test("one", () -> is(spanOf(63, 63).span(0, 0, 63), 1));
        test("two", () -> is(spanOf(0, 1).span(0, 0, 63), 2));
        test("63", () -> is(spanOf(1, 63).span(0, 1, 63), 63));
        says("Throws `IndexOutOfBoundsException` if there is no such line");
        test("the 21st one", () -> refused(Boundaries::full, INDEX, x -> x.span(20, 0, 0)));
        test("one that is undone", () -> refused(() -> {
            LineLives x = levels(3);
            x.undo();
            return x;
        }, INDEX, x -> x.span(2, 0, 0)));
        says("Throws `IllegalArgumentException` if another argument is out of range");
        test("both below", () -> refused(Boundaries::rich, ARGUMENT, x -> x.span(0, -2, -1)));
        test("both above", () -> refused(Boundaries::rich, ARGUMENT, x -> x.span(0, 64, 65)));
        test("on both sides", () -> refused(Boundaries::rich, ARGUMENT, x -> x.span(0, -1, 64)));
        test("the whole range of numbers", () -> refused(Boundaries::rich, ARGUMENT, x -> x.span(0, LEAST, MOST)));
        test("the other way round", () -> refused(Boundaries::rich, ARGUMENT, x -> x.span(0, 63, 0)));
    }

    private static LineLives spanOf(int first, int last) {
        LineLives x = with("0x+0");
        x.span(0, first, last);
        return x;
    }

    private void live() {
        section("Promise 4: live");
        says("Changes the life of a line.");
        test("just that", () -> {
            LineLives x = with("1x+2@3-4;5x+6@7-8;9x+10");
            x.span(1, 20, 30);
            x.live(1, 40, 50);
            line(x, 0, 1, 2, 0, 63, 3, 4);
            line(x, 1, 5, 6, 20, 30, 40, 50);
            line(x, 2, 9, 10, 0, 63, 0, 99);
        });
        test("to the first moment alone", () -> {
            LineLives x = with("0x+0");
            x.live(0, 0, 0);
            is("at 0", x.lowest(0, 0), 0);
            is("at 1", x.lowest(0, 1), NONE);
        });
        test("to the last moment alone", () -> {
            LineLives x = with("0x+0");
            x.live(0, 99, 99);
            is("at 99", x.lowest(0, 99), 0);
            is("at 98", x.lowest(0, 98), NONE);
        });
        test("to more moments again", () -> {
            LineLives x = with("0x+0@99-99");
            x.live(0, 0, 99);
            is(x.value(0), 0);
        });
        says("Undoable.");
        test("undone", () -> undone(Boundaries::rich, x -> x.live(0, 1, 1)));
        test("the same one undone", () -> undone(Boundaries::rich, x -> x.live(0, 0, 99)));
        says("`line`: its number");
        lineNumber("line", (x, line) -> x.live(line, 1, 2));
        says("`first`: 0 to 99");
        range("first", 0, 99, (x, first) -> x.live(0, first, 99));
        says("`last`: first to 99");
        range("last of 0", 0, 99, (x, last) -> x.live(0, 0, last));
        range("last of 70", 70, 99, (x, last) -> x.live(0, 70, last));
        range("last of 99", 99, 99, (x, last) -> x.live(0, 99, last));
        says("Returns how many moments it had.");
        test("100", () -> is(with("0x+0").live(0, 5, 5), 100));
        test("one", () -> is(with("0x+0@99-99").live(0, 0, 99), 1));
        test("two", () -> is(with("0x+0@0-1").live(0, 0, 99), 2));
        test("99", () -> is(with("0x+0@1-99").live(0, 1, 99), 99));
        says("Throws `IndexOutOfBoundsException` if there is no such line");
        test("the 21st one", () -> refused(Boundaries::full, INDEX, x -> x.live(20, 0, 0)));
        test("one that is undone", () -> refused(() -> {
            LineLives x = levels(3);
            x.undo();
            return x;
        }, INDEX, x -> x.live(2, 0, 0)));
        says("Throws `IllegalArgumentException` if another argument is out of range");
        test("both below", () -> refused(Boundaries::rich, ARGUMENT, x -> x.live(0, -2, -1)));
        test("both above", () -> refused(Boundaries::rich, ARGUMENT, x -> x.live(0, 100, 101)));
        test("on both sides", () -> refused(Boundaries::rich, ARGUMENT, x -> x.live(0, -1, 100)));
        test("the whole range of numbers", () -> refused(Boundaries::rich, ARGUMENT, x -> x.live(0, LEAST, MOST)));
        test("the other way round", () -> refused(Boundaries::rich, ARGUMENT, x -> x.live(0, 99, 0)));
    }

    private void lift() {
        section("Promise 5: lift");
        says("Lifts a line.");
        test("just that one", () -> {
            LineLives x = with("1x+2@3-4;5x+6@7-8;9x+10");
            x.lift(1, 100);
            line(x, 0, 1, 2, 0, 63, 3, 4);
            line(x, 1, 5, 106, 0, 63, 7, 8);
            line(x, 2, 9, 10, 0, 63, 0, 99);
        });
        test("by 0", () -> line(lifted(7, 0), 0, 3, 7, 0, 63, 0, 99));
        test("by 1, no longer the lowest one", () -> {
            LineLives x = with("0x+5;0x+5");
            x.lift(0, 1);
            is(x.lowest(0, 0), 1);
        });
        says("Undoable.");
        test("undone", () -> undone(Boundaries::rich, x -> x.lift(0, 9999)));
        test("by 0 undone", () -> undone(Boundaries::rich, x -> x.lift(0, 0)));
        says("`line`: its number");
        lineNumber("line", (x, line) -> x.lift(line, 0));
        says("`by`: -9999 to 9999");
        range("by", -9999, 9999, (x, by) -> x.lift(0, by));
        says("Returns its offset then.");
        test("0", () -> is(with("3x+5").lift(0, -5), 0));
        test("the greatest one", () -> is(with("3x+0").lift(0, 9999), 9999));
        test("the least one", () -> is(with("3x+0").lift(0, -9999), -9999));
        test("from the least one to 0", () -> is(with("3x-9999").lift(0, 9999), 0));
        test("from the greatest one to 0", () -> is(with("3x+9999").lift(0, -9999), 0));
        says("Throws `IndexOutOfBoundsException` if there is no such line");
        test("the 21st one", () -> refused(Boundaries::full, INDEX, x -> x.lift(20, 0)));
        says("Throws `IllegalArgumentException` if by is out of range");
        test("though the offset would be in range", () ->
                refused(() -> with("0x-9999"), ARGUMENT, x -> x.lift(0, 10000)));
        test("though the offset would be in range, down", () ->
                refused(() -> with("0x+9999"), ARGUMENT, x -> x.lift(0, -10000)));
        says("Throws `IllegalStateException` if the offset would be below -9999 or above 9999");
        test("just 9999", () -> is(with("3x+9998").lift(0, 1), 9999));
        test("10000", () -> refused(() -> with("3x+9998"), STATE, x -> x.lift(0, 2)));
        test("just -9999", () -> is(with("3x-9998").lift(0, -1), -9999));
        test("-10000", () -> refused(() -> with("3x-9998"), STATE, x -> x.lift(0, -2)));
        test("the most above", () -> refused(() -> with("3x+9999"), STATE, x -> x.lift(0, 9999)));
        test("the most below", () -> refused(() -> with("3x-9999"), STATE, x -> x.lift(0, -9999)));
        test("9999 by 0", () -> is(with("3x+9999").lift(0, 0), 9999));
        test("-9999 by 0", () -> is(with("3x-9999").lift(0, 0), -9999));
    }

    private static LineLives lifted(int offset, int by) {
        LineLives x = new LineLives();
        x.add(3, offset);
        x.lift(0, by);
        return x;
    }

    private void turn() {
        section("Promise 6: turn");
        says("it has another slope, and the value that it has there");
        test("just that one", () -> {
            LineLives x = with("1x+2@3-4;5x+6@7-8;9x+10");
            x.turn(1, 10, -5);
            line(x, 0, 1, 2, 0, 63, 3, 4);
            line(x, 1, -5, 106, 0, 63, 7, 8);
            line(x, 2, 9, 10, 0, 63, 0, 99);
        });
        test("around the place 0", () -> {
            LineLives x = with("7x+30");
            is("offset", x.turn(0, 0, -99), 30);
            is("value", x.value(0), 30);
        });
        test("around the place 63", () -> {
            LineLives x = with("7x+30");
            is("offset", x.turn(0, 63, -99), 30 + 63 * 106);
            is("value", x.value(63), 471);
        });
        says("(or would have, if the place is not in its span)");
        test("before its span", () -> {
            LineLives x = with("7x+30");
            x.span(0, 11, 20);
            is("offset", x.turn(0, 10, 0), 100);
            is("value", x.value(11), 100);
        });
        test("behind its span", () -> {
            LineLives x = with("7x+30");
            x.span(0, 11, 20);
            is("offset", x.turn(0, 21, 0), 177);
            line(x, 0, 0, 177, 11, 20, 0, 99);
        });
        says("Undoable.");
        test("undone", () -> undone(Boundaries::rich, x -> x.turn(0, 63, -99)));
        test("to the same slope undone", () -> undone(Boundaries::rich, x -> x.turn(0, 63, 1)));
        says("`line`: its number");
        lineNumber("line", (x, line) -> x.turn(line, 0, 5));
        says("`place`: 0 to 63");
        range("place", 0, 63, (x, place) -> x.turn(0, place, 1));
        says("`slope`: -99 to 99");
        range("slope", -99, 99, (x, slope) -> x.turn(0, 0, slope));
        says("Returns its offset then.");
        test("to the same slope", () -> is(with("7x+30").turn(0, 63, 7), 30));
        test("0", () -> is(with("0x+63").turn(0, 63, 1), 0));
        test("the most that it can change", () -> is(with("-99x+5000").turn(0, 63, 99), 5000 - 63 * 198));
    }

    private void turnRefused() {
        says("Throws `IndexOutOfBoundsException` if there is no such line");
        test("the 21st one", () -> refused(Boundaries::full, INDEX, x -> x.turn(20, 0, 0)));
        says("Throws `IllegalArgumentException` if another argument is out of range");
        test("both", () -> refused(Boundaries::rich, ARGUMENT, x -> x.turn(0, -1, 100)));
        test("the place of the least slope", () -> refused(Boundaries::rich, ARGUMENT, x -> x.turn(0, 64, -99)));
        test("the slope of the last place", () -> refused(Boundaries::rich, ARGUMENT, x -> x.turn(0, 63, -100)));
        says("Throws `IllegalStateException` if the offset would be below -9999 or above 9999");
        test("just 9999", () -> is(with("1x+9998").turn(0, 1, 0), 9999));
        test("10000", () -> refused(() -> with("1x+9999"), STATE, x -> x.turn(0, 1, 0)));
        test("just -9999", () -> is(with("-1x-9998").turn(0, 1, 0), -9999));
        test("-10000", () -> refused(() -> with("-1x-9999"), STATE, x -> x.turn(0, 1, 0)));
        test("the most above", () -> refused(() -> with("99x+9999"), STATE, x -> x.turn(0, 63, -99)));
        test("the most below", () -> refused(() -> with("-99x-9999"), STATE, x -> x.turn(0, 63, 99)));
        test("9999 around the place 0", () -> is(with("99x+9999").turn(0, 0, -99), 9999));
    }

    private void remove() {
        section("Promise 7: remove");
        says("Removes a line.");
        test("the first one", () -> {
            LineLives x = with("1x+2@3-4;5x+6@7-8");
            x.span(1, 10, 20);
            x.remove(0);
            line(x, 0, 5, 6, 10, 20, 7, 8);
        });
        test("the last one", () -> {
            LineLives x = with("1x+2@3-4;5x+6@7-8");
            x.remove(1);
            line(x, 0, 1, 2, 0, 63, 3, 4);
        });
        test("the lowest one", () -> {
            LineLives x = levels(3);
            x.remove(0);
            is(x.value(0), 1);
        });
        says("Undoable.");
        test("the first one undone", () -> undone(Boundaries::rich, x -> x.remove(0)));
        test("the last one undone", () -> undone(Boundaries::rich, x -> x.remove(4)));
        test("the only one undone", () -> undone(() -> with("1x+2@3-4"), x -> x.remove(0)));
        test("one of 20 undone", () -> undone(Boundaries::full, x -> x.remove(10)));
        says("`line`: its number");
        lineNumber("line", (x, line) -> x.remove(line));
        says("Returns how many lines there are then.");
        test("0", () -> is(with("1x+2").remove(0), 0));
        test("19", () -> is(levels(20).remove(19), 19));
        test("down to 0", () -> {
            LineLives x = levels(20);
            for (int left = 19; left >= 0; left--) {
                is("left", x.remove(left / 2), left);
            }
        });
        says("Throws `IndexOutOfBoundsException` if there is no such line");
        test("the 21st one", () -> refused(Boundaries::full, INDEX, x -> x.remove(20)));
        test("twice the last one", () -> refused(() -> {
            LineLives x = levels(20);
            x.remove(19);
            return x;
        }, INDEX, x -> x.remove(19)));
    }

    private void prune() {
        section("Promise 8: prune");
        says("Removes all lines that are never lowest, at no place and no moment.");
        test("the only one stays", () -> pruned("99x+9999", 0));
        test("of like ones the first one stays", () -> pruned("0x+5;0x+5;0x+5", 2));
        test("lowest at the place 0 alone", () -> pruned("0x+0;1x-1", 0));
        test("like the other one at the place 0", () -> pruned("0x+0;1x+0", 1));
        test("lowest at the place 63 alone", () -> pruned("0x+0;-1x+62", 0));
        test("like the other one at the place 63", () -> pruned("0x+0;-1x+63", 1));
        test("lowest at one place within", () -> {
            LineLives x = with("0x+0;0x-1");
            x.span(1, 30, 30);
            is("removed", x.prune(), 0);
        });
        test("never lowest within", () -> {
            LineLives x = with("0x+0;0x+0");
            x.span(1, 30, 30);
            is("removed", x.prune(), 1);
            line(x, 0, 0, 0, 0, 63, 0, 99);
        });
        test("lowest at the moment 0 alone", () -> pruned("0x+0@1-99;0x+1", 0));
        test("lowest at the moment 99 alone", () -> pruned("0x+0@0-98;0x+1", 0));
        test("lowest at one moment within", () -> pruned("0x+0@0-49;0x+0@51-99;0x+1", 0));
        test("never lowest, each moment has another one", () -> pruned("0x+0@0-49;0x+0@50-99;0x+1", 1));
        test("lowest at one moment and one place", () -> {
            LineLives x = with("0x+0;0x+0@0-41;0x+0@43-99;0x+1");
            x.span(0, 1, 63);
            is("removed", x.prune(), 0);
        });
        test("never lowest, all moments and places have others", () -> {
            LineLives x = with("0x+0;0x+0@0-41;0x+0@42-99;0x+1");
            x.span(0, 1, 63);
            is("removed", x.prune(), 1);
            is("lines", x.count(1), 3);
        });
        test("not lowest at present", () -> {
            LineLives x = with("0x+0@0-10;0x+1@0-11");
            x.go(5);
            is("removed", x.prune(), 0);
        });
    }

    private void pruneMany() {
        says("Undoable.");
        test("19 of 20 undone", () -> undone(Boundaries::full, x -> x.prune()));
        test("none undone", () -> undone(() -> with("0x+0"), x -> x.prune()));
        test("without lines undone", () -> undone(LineLives::new, x -> x.prune()));
        says("Returns how many are removed.");
        test("none without lines", () -> is(new LineLives().prune(), 0));
        test("none of one", () -> is(with("0x+0").prune(), 0));
        test("19 of 20", () -> is(levels(20).prune(), 19));
        test("19 of 20, and the last one stays", () -> {
            LineLives x = new LineLives();
            for (int i = 0; i < 20; i++) {
                x.add(0, -i);
            }
            is("removed", x.prune(), 19);
            is("lines", x.count(1), 1);
            line(x, 0, 0, -19);
        });
        test("the first and the last one of three", () -> {
            LineLives x = with("0x+9;0x+5;0x+8");
            is("removed", x.prune(), 2);
            line(x, 0, 0, 5);
        });
        test("none a second time", () -> {
            LineLives x = rich();
            x.prune();
            is(x.prune(), 0);
        });
    }

    private static void pruned(String text, int due) {
        LineLives x = with(text);
        int lines = x.count(1);
        is("never lowest", x.count(7), due);
        is("removed", x.prune(), due);
        is("lines", x.count(1), lines - due);
        is("never lowest then", x.count(7), 0);
    }

    private void go() {
        section("Promise 9: go");
        says("Goes to another moment.");
        test("from the first one to the last one", () -> {
            LineLives x = with("0x+5@0-98;0x+6@99-99");
            x.go(99);
            is("value", x.value(0), 6);
            node(x, 1, 1, 1);
            row(x, 0, 0, 64, 1);
        });
        test("and back", () -> {
            LineLives x = with("0x+5@0-98;0x+6@99-99");
            x.go(99);
            x.go(98);
            is("value", x.value(0), 5);
            node(x, 1, 0, 1);
            row(x, 0, 0, 64, 0);
        });
        test("to the same one", () -> {
            LineLives x = rich();
            x.go(7);
            is(x.count(0), 7);
        });
        says("Undoable.");
        test("undone", () -> undone(Boundaries::rich, x -> x.go(0)));
        test("to the same one undone", () -> undone(Boundaries::rich, x -> x.go(7)));
        test("without lines undone", () -> undone(LineLives::new, x -> x.go(99)));
        says("`moment`: 0 to 99");
        range("moment", 0, 99, (x, moment) -> x.go(moment));
        says("Returns the previous moment.");
        test("the first one", () -> is(new LineLives().go(99), 0));
        test("the last one", () -> {
            LineLives x = new LineLives();
            x.go(99);
            is(x.go(0), 99);
        });
        test("the same one", () -> {
            LineLives x = new LineLives();
            x.go(99);
            is(x.go(99), 99);
        });
        says("Throws `IllegalArgumentException` if moment is out of range");
        test("without lines", () -> refused(LineLives::new, ARGUMENT, x -> x.go(100)));
    }
}
