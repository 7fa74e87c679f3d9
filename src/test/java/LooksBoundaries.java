/** The boundary cases of the promises 15 to 22: the looks at lines, places, nodes, rows and numbers. */
final class LooksBoundaries extends Boundaries {
    @Override
    void tell() {
        line();
        lineWherever();
        lowest();
        value();
        ranked();
        node();
        row();
        sum();
        count();
        countOfTree();
    }

    private void line() {
        section("Promise 15: line");
        says("Returns a property of a line.");
        test("of the first one", () -> line(levels(20), 0, 0, 0, 0, 63, 0, 99, 64, 1, 0));
        test("of the 20th one", () -> line(levels(20), 19, 0, 19, 0, 63, 0, 99, 0, 0, NONE));
        says("`line`: its number");
        lineNumber("line", (x, line) -> x.line(line, 0));
        says("`what`: 0: its slope; 1: its offset; 2: its first place; 3: its last place; 4: its first moment; "
                + "5: its last moment;");
        range("what", 0, 8, (x, what) -> x.line(0, what));
        test("the least ones", () -> {
            LineLives x = with("-99x-9999@0-0");
            x.span(0, 0, 0);
            line(x, 0, -99, -9999, 0, 0, 0, 0);
        });
        test("the greatest ones", () -> {
            LineLives x = with("99x+9999@99-99");
            x.span(0, 63, 63);
            line(x, 0, 99, 9999, 63, 63, 99, 99);
        });
        says("Returns the property.");
        test("-1 as a slope is not NONE", () -> is(with("-1x-1").line(0, 0), -1));
        says("Throws `IndexOutOfBoundsException` if there is no such line");
        test("the 21st one", () -> refused(Boundaries::full, INDEX, x -> x.line(20, 8)));
        test("without lines", () -> refused(LineLives::new, INDEX, x -> x.line(0, 6)));
        says("Throws `IllegalArgumentException` if what is not 0 to 8");
        test("of the last line", () -> refused(Boundaries::full, ARGUMENT, x -> x.line(19, 9)));
    }

    private void lineWherever() {
        says("6: at how many places it is lowest at the present moment");
        test("at none", () -> is(levels(2).line(1, 6), 0));
        test("at all", () -> is(levels(2).line(0, 6), 64));
        test("at the first one alone", () -> is(with("0x+0;1x-1").line(1, 6), 1));
        test("at the last one alone", () -> is(with("0x+0;-1x+62").line(1, 6), 1));
        test("before its life", () -> is(with("0x+0@1-5").line(0, 6), 0));
        test("behind its life", () -> {
            LineLives x = with("0x+0@1-5");
            x.go(6);
            is(x.line(0, 6), 0);
        });
        test("at its first and its last moment", () -> {
            LineLives x = with("0x+0@1-5");
            x.go(1);
            is("first", x.line(0, 6), 64);
            x.go(5);
            is("last", x.line(0, 6), 64);
        });
        says("7: how many nodes of the tree keep it");
        test("none", () -> is(levels(2).line(1, 7), 0));
        test("one", () -> is(levels(2).line(0, 7), 1));
        test("ten", () -> {
            LineLives x = levels(1);
            x.span(0, 1, 62);
            is(x.line(0, 7), 10);
        });
        test("none before its life", () -> is(with("0x+0@1-5").line(0, 7), 0));
        test("one though it is lowest nowhere", () -> is(with("1x+0;-1x+63;0x-99").line(1, 7), 1));
        says("8: the first moment, of all from 0 to 99, at which it is lowest at some place, NONE if it never is");
        test("0", () -> is(levels(1).line(0, 8), 0));
        test("99", () -> is(with("0x+0@0-98;0x+1").line(1, 8), 99));
        test("1", () -> is(with("0x+0@0-0;0x+1").line(1, 8), 1));
        test("in the middle of its life", () -> is(with("0x+0@5-50;0x+1@5-60").line(1, 8), 51));
        test("before a lower one", () -> is(with("0x+0@50-99;0x+1@49-99").line(1, 8), 49));
        test("never below a lower one", () -> is(with("0x+0@50-99;0x+1@50-99").line(1, 8), NONE));
        test("never, of like ones", () -> is(with("0x+0;0x+0").line(1, 8), NONE));
        test("never, for each moment there is a lower one", () ->
                is(with("0x+0@0-50;0x+0@51-99;0x+1").line(2, 8), NONE));
        test("just between two lower ones", () -> is(with("0x+0@0-50;0x+0@52-99;0x+1").line(2, 8), 51));
        test("before the present moment", () -> {
            LineLives x = with("0x+0@3-4;0x+0@50-50");
            x.go(50);
            is("before", x.line(0, 8), 3);
            is("at present", x.line(1, 8), 50);
        });
        test("behind the present moment", () -> is(with("0x+0@99-99").line(0, 8), 99));
        test("and lowest again later", () -> is(with("0x+0;0x+5@3-4;0x-1@7-8").line(0, 8), 0));
        test("behind the one moment of a lower one", () -> is(with("0x+0@5-5;0x+1@5-99").line(1, 8), 6));
        test("the first of two moments apart", () -> is(with("0x+0@0-4;0x+0@6-9;0x+0@11-99;0x+1").line(3, 8), 5));
        test("at the first place alone", () -> is(with("0x+0;1x-1@60-70").line(1, 8), 60));
        test("at the last place alone", () -> is(with("0x+0;-1x+62@60-70").line(1, 8), 60));
    }

    private void lowest() {
        section("Promise 16: lowest");
        says("Returns the lowest line.");
        test("of 20", () -> is(levels(20).lowest(63, 99), 0));
        test("the last one of 20", () -> {
            LineLives x = levels(20);
            x.lift(19, -20);
            is(x.lowest(0, 99), 19);
        });
        test("at another moment than the present one", () -> {
            LineLives x = with("0x+0@0-49;0x+1");
            is("before", x.lowest(0, 49), 0);
            is("after", x.lowest(0, 50), 1);
            x.go(99);
            is("before, from later on", x.lowest(0, 49), 0);
        });
        says("`place`: 0 to 63");
        range("place", 0, 63, (x, place) -> x.lowest(place, 0));
        says("`moment`: 0 to 99");
        range("moment", 0, 99, (x, moment) -> x.lowest(0, moment));
        says("Returns its number; NONE if there is none.");
        test("the number 0", () -> is(levels(1).lowest(0, 0), 0));
        test("none without lines", () -> is(new LineLives().lowest(63, 99), NONE));
        test("none before a span", () -> is(part().lowest(29, 40), NONE));
        test("none behind a span", () -> is(part().lowest(32, 40), NONE));
        test("none before a life", () -> is(part().lowest(30, 39), NONE));
        test("none behind a life", () -> is(part().lowest(30, 42), NONE));
        test("one at the ends of both", () -> is(part().lowest(31, 41), 0));
        says("Throws `IllegalArgumentException` if an argument is out of range");
        test("both", () -> refused(Boundaries::rich, ARGUMENT, x -> x.lowest(64, 100)));
        test("a moment as a place", () -> refused(Boundaries::rich, ARGUMENT, x -> x.lowest(99, 63)));
        test("without lines", () -> refused(LineLives::new, ARGUMENT, x -> x.lowest(-1, -1)));
    }

    /** A line at the places 30 and 31 and the moments 40 and 41. */
    private static LineLives part() {
        LineLives x = with("0x+0@40-41");
        x.span(0, 30, 31);
        return x;
    }

    private void value() {
        section("Promise 17: value");
        says("Returns the least value at the present moment.");
        test("at its first moment", () -> {
            LineLives x = with("0x+5@40-41;0x+9");
            x.go(39);
            is("before", x.value(0), 9);
            x.go(40);
            is("at first", x.value(0), 5);
        });
        test("at its last moment", () -> {
            LineLives x = with("0x+5@40-41;0x+9");
            x.go(41);
            is("at last", x.value(0), 5);
            x.go(42);
            is("behind", x.value(0), 9);
        });
        says("`place`: 0 to 63");
        range("place", 0, 63, (x, place) -> x.value(place));
        says("Returns the value of the lowest line there.");
        test("the greatest one", () -> is(with("99x+9999").value(63), 16236));
        test("the least one", () -> is(with("-99x-9999").value(63), -16236));
        test("-1 is not NONE", () -> is(with("0x-1").value(0), -1));
        test("of two at their ends", () -> {
            LineLives x = with("1x+0;0x+10");
            x.span(0, 0, 30);
            x.span(1, 30, 63);
            is("29", x.value(29), 29);
            is("30", x.value(30), 10);
            is("31", x.value(31), 10);
        });
        says("Throws `IllegalArgumentException` if place is out of range");
        test("without lines", () -> refused(LineLives::new, ARGUMENT, x -> x.value(-1)));
        says("Throws `IllegalStateException` if there is none");
        test("without lines", () -> refused(LineLives::new, STATE, x -> x.value(63)));
        test("before a span", () -> refused(LooksBoundaries::presentPart, STATE, x -> x.value(29)));
        test("behind a span", () -> refused(LooksBoundaries::presentPart, STATE, x -> x.value(32)));
        test("within a span", () -> is(presentPart().value(31), 0));
        test("before a life", () -> refused(LooksBoundaries::part, STATE, x -> x.value(30)));
        test("behind a life", () -> refused(() -> {
            LineLives x = part();
            x.go(42);
            return x;
        }, STATE, x -> x.value(30)));
    }

    private static LineLives presentPart() {
        LineLives x = part();
        x.go(40);
        return x;
    }

    private void ranked() {
        section("Promise 18: ranked");
        says("Returns the place of a line in the order at a place, at the present moment.");
        test("not those of other moments", () -> {
            LineLives x = with("0x+1@1-99;0x+2;0x+0@0-0;0x+3@1-1");
            is("0", x.ranked(0, 0), 2);
            is("1", x.ranked(0, 1), 1);
            is("2", x.ranked(0, 2), NONE);
        });
        test("not those of other places", () -> {
            LineLives x = levels(4);
            x.span(0, 0, 9);
            x.span(2, 11, 63);
            is("0", x.ranked(10, 0), 1);
            is("1", x.ranked(10, 1), 3);
            is("2", x.ranked(10, 2), NONE);
        });
        says("`place`: 0 to 63");
        range("place", 0, 63, (x, place) -> x.ranked(place, 0));
        says("`rank`: 0 for the lowest line, 1 for the one that is lower than all others but that one");
        test("20 in their order", () -> {
            LineLives x = levels(20);
            for (int rank = 0; rank < 20; rank++) {
                is("rank " + rank, x.ranked(0, rank), rank);
            }
        });
        test("20 the other way round", () -> {
            LineLives x = new LineLives();
            for (int i = 0; i < 20; i++) {
                x.add(-i, 0);
            }
            for (int rank = 0; rank < 20; rank++) {
                is("rank " + rank, x.ranked(1, rank), 19 - rank);
            }
        });
        test("like ones in the order of their numbers", () -> {
            LineLives x = with("0x+5;0x+4;0x+5;0x+4");
            is("0", x.ranked(0, 0), 1);
            is("1", x.ranked(0, 1), 3);
            is("2", x.ranked(0, 2), 0);
            is("3", x.ranked(0, 3), 2);
        });
        says("Returns the line; NONE if not so many count there.");
        test("one more than there are", () -> is(levels(3).ranked(0, 3), NONE));
        test("the last one that there is", () -> is(levels(3).ranked(0, 2), 2));
        test("20 of 20", () -> is(levels(20).ranked(0, 20), NONE));
        test("the greatest number", () -> is(levels(20).ranked(0, MOST), NONE));
        test("without lines", () -> is(new LineLives().ranked(0, 0), NONE));
        says("Throws `IllegalArgumentException` if place is out of range, or rank is below 0");
        test("rank -1", () -> refused(Boundaries::rich, ARGUMENT, x -> x.ranked(0, -1)));
        test("the least rank", () -> refused(Boundaries::rich, ARGUMENT, x -> x.ranked(0, LEAST)));
        test("rank -1 without lines", () -> refused(LineLives::new, ARGUMENT, x -> x.ranked(0, -1)));
        test("both", () -> refused(Boundaries::rich, ARGUMENT, x -> x.ranked(64, -1)));
        test("a place of a rank that there is not", () ->
                refused(Boundaries::rich, ARGUMENT, x -> x.ranked(64, MOST)));
    }

    private void node() {
        section("Promise 19: node");
        says("Returns a property of a node of the tree.");
        test("of the first one", () -> node(levels(3), 1, 0, 3));
        test("of the last one", () -> {
            LineLives x = levels(3);
            for (int i = 0; i < 3; i++) {
                x.span(i, 63, 63);
            }
            node(x, 127, 0, 3);
        });
        says("`node`: 1 to 127");
        for (int node : new int[] {1, 2, 63, 64, 127}) {
            test("node " + node + " is taken", () -> is(rich().node(node, 3), new LineLives().node(node, 3)));
        }
        says("`what`: 0: the line that it keeps, NONE if none; 1: its first place; 2: its last place; 3: its middle; "
                + "4: how often a step was made there");
        range("what", 0, 4, (x, what) -> x.node(1, what));
        range("what of the node 127", 0, 4, (x, what) -> x.node(127, what));
        test("none in a new object", () -> node(new LineLives(), 1, NONE, 0));
        test("the line 0 is not none", () -> node(levels(1), 1, 0, 1));
        test("a step that changes nothing", () -> node(levels(2), 1, 0, 2));
        test("20 steps", () -> node(levels(20), 1, 0, 20));
        test("no step for a line that is put past it", () -> {
            LineLives x = levels(1);
            x.span(0, 0, 62);
            node(x, 1, NONE, 0);
        });
        test("no step for a line that does not live", () -> node(with("0x+0@1-1"), 1, NONE, 0));
        test("another moment, another line", () -> {
            LineLives x = with("0x+0@0-0;0x+1@1-1;0x+2@1-1");
            node(x, 1, 0, 1);
            x.go(1);
            node(x, 1, 1, 2);
            x.go(2);
            node(x, 1, NONE, 0);
        });
        says("Throws `IndexOutOfBoundsException` if there is no such node");
        for (int node : new int[] {0, -1, 128, 129, 255, LEAST, MOST}) {
            test("node " + node, () -> refused(Boundaries::rich, INDEX, x -> x.node(node, 0)));
        }
        says("Throws `IllegalArgumentException` if what is not 0 to 4");
        test("without lines", () -> refused(LineLives::new, ARGUMENT, x -> x.node(1, 5)));
    }

    private void row() {
        section("Promise 20: row");
        says("a longest possible row of places side by side with the same lowest line, or all without one");
        test("all places without a line", () -> row(new LineLives(), 0, 0, 64, NONE));
        test("all places with one", () -> row(levels(1), 0, 0, 64, 0));
        test("the first place alone", () -> {
            LineLives x = with("0x+0;1x-1");
            row(x, 0, 0, 1, 1);
            row(x, 1, 1, 63, 0);
            row(x, 2, NONE, NONE, NONE);
        });
        test("the last place alone", () -> {
            LineLives x = with("0x+0;-1x+62");
            row(x, 0, 0, 63, 0);
            row(x, 1, 63, 1, 1);
            row(x, 2, NONE, NONE, NONE);
        });
        test("none at the first and at the last place", () -> {
            LineLives x = levels(1);
            x.span(0, 1, 62);
            row(x, 0, 0, 1, NONE);
            row(x, 1, 1, 62, 0);
            row(x, 2, 63, 1, NONE);
            row(x, 3, NONE, NONE, NONE);
        });
        test("two rows of the same line", () -> {
            LineLives x = with("0x+0;0x-1");
            x.span(1, 30, 30);
            row(x, 0, 0, 30, 0);
            row(x, 1, 30, 1, 1);
            row(x, 2, 31, 33, 0);
        });
        test("two lines of like values side by side", () -> {
            LineLives x = with("0x+0;0x+0");
            x.span(0, 0, 31);
            row(x, 0, 0, 32, 0);
            row(x, 1, 32, 32, 1);
        });
        test("a line that goes where another one comes with like values", () -> {
            LineLives x = with("0x+0;0x+0");
            x.span(1, 0, 31);
            row(x, 0, 0, 64, 0);
            row(x, 1, NONE, NONE, NONE);
        });
        rowNumbers();
    }

    private void rowNumbers() {
        says("`row`: its number, by ascending places, from 0");
        test("39 rows", () -> {
            LineLives x = levels(20);
            for (int i = 0; i < 19; i++) {
                x.span(i, 2 * i + 1, 2 * i + 1);
            }
            is("rows", x.count(3), 39);
            for (int row = 0; row < 38; row++) {
                row(x, row, row, 1, row % 2 == 0 ? 19 : row / 2);
            }
            row(x, 38, 38, 26, 19);
            row(x, 39, NONE, NONE, NONE);
        });
        test("64 rows, the most", () -> {
            LineLives x = manyRows();
            is("rows", x.count(3), 64);
            for (int row = 0; row < 64; row++) {
                row(x, row, row, 1, x.lowest(row, 0));
            }
            row(x, 64, NONE, NONE, NONE);
        });
        says("`what`: 0: its first place; 1: its places, how many; 2: the line, NONE without one");
        range("what", 0, 2, (x, what) -> x.row(0, what));
        says("Returns the property; NONE if there are not so many.");
        test("one more than there are", () -> row(levels(1), 1, NONE, NONE, NONE));
        test("64 and more", () -> {
            row(levels(1), 64, NONE, NONE, NONE);
            row(levels(1), 65, NONE, NONE, NONE);
        });
        test("the greatest number", () -> row(rich(), MOST, NONE, NONE, NONE));
        test("fewer than before", () -> {
            LineLives x = levels(1);
            x.span(0, 1, 1);
            row(x, 2, 2, 62, NONE);
            x.span(0, 0, 63);
            row(x, 1, NONE, NONE, NONE);
            row(x, 2, NONE, NONE, NONE);
        });
        says("Throws `IllegalArgumentException` if row is below 0, or what is not 0 to 2");
        for (int row : new int[] {-1, LEAST}) {
            test("row " + row, () -> refused(Boundaries::rich, ARGUMENT, x -> x.row(row, 0)));
        }
        test("both", () -> refused(Boundaries::rich, ARGUMENT, x -> x.row(-1, 3)));
        test("what 3 of a row that there is not", () -> refused(Boundaries::rich, ARGUMENT, x -> x.row(64, 3)));
        test("what -1 of a row that there is not", () -> refused(Boundaries::rich, ARGUMENT, x -> x.row(MOST, -1)));
    }

    /** Slopes, offsets and spans (found by trying) with which no two places side by side have the same lowest line. */
    private static final int[][] MANY_ROWS = {
        {63, -1458, 26, 46}, {-26, 1768, 39, 44}, {78, -1262, 21, 57}, {-97, 4587, 36, 42}, {-45, 1447, 4, 29},
        {6, 222, 24, 33}, {-55, 3510, 50, 50}, {-86, 1729, 59, 61}, {-5, 1060, 52, 54}, {6, 552, 9, 36},
        {52, -1995, 53, 55}, {37, -5756, 60, 62}, {-96, 1538, 6, 10}, {84, 172, 7, 32}, {-60, 1558, 2, 19},
        {68, -778, 15, 56}, {19, -191, 41, 45}, {-2, 473, 13, 32}, {87, -2288, 28, 47}, {-91, 1634, 1, 16},
    };

    static LineLives manyRows() {
        LineLives x = new LineLives();
        for (int[] line : MANY_ROWS) {
            x.span(x.add(line[0], line[1]), line[2], line[3]);
        }
        return x;
    }

    private void sum() {
        section("Promise 21: sum");
        says("Adds up least values at the present moment.");
        test("at the first moment of a line", () -> {
            LineLives x = with("0x+5@40-41;0x+9");
            x.go(40);
            is(x.sum(0, 63), 320);
        });
        test("behind the last moment of a line", () -> {
            LineLives x = with("0x+5@40-41;0x+9");
            x.go(42);
            is(x.sum(0, 63), 576);
        });
        says("`first`: 0 to 63");
        range("first", 0, 63, (x, first) -> x.sum(first, 63));
        says("`last`: first to 63");
        range("last of 0", 0, 63, (x, last) -> x.sum(0, last));
        range("last of 30", 30, 63, (x, last) -> x.sum(30, last));
        says("Returns the sum of the values of the lowest lines at these places");
        test("the first place alone", () -> is(with("1x+5").sum(0, 0), 5));
        test("the last place alone", () -> is(with("1x+5").sum(63, 63), 68));
        test("two places", () -> is(with("1x+5").sum(30, 31), 71));
        test("all places", () -> is(with("1x+0").sum(0, 63), 2016));
        test("the greatest one", () -> is(with("99x+9999").sum(0, 63), 839520));
        test("the least one", () -> is(with("-99x-9999").sum(0, 63), -839520));
        says("(where there is none, nothing is added)");
        test("without lines", () -> is(new LineLives().sum(0, 63), 0));
        test("at its ends", () -> {
            LineLives x = with("0x+5");
            x.span(0, 30, 31);
            is("all", x.sum(0, 63), 10);
            is("before", x.sum(0, 29), 0);
            is("to its first place", x.sum(0, 30), 5);
            is("from its last place on", x.sum(31, 63), 5);
            is("behind", x.sum(32, 63), 0);
        });
        says("Throws `IllegalArgumentException` if an argument is out of range");
        test("both", () -> refused(Boundaries::rich, ARGUMENT, x -> x.sum(-1, 64)));
        test("the other way round", () -> refused(Boundaries::rich, ARGUMENT, x -> x.sum(63, 0)));
        test("both above", () -> refused(Boundaries::rich, ARGUMENT, x -> x.sum(64, 64)));
        test("both below", () -> refused(Boundaries::rich, ARGUMENT, x -> x.sum(-1, -1)));
        test("the whole range of numbers", () -> refused(Boundaries::rich, ARGUMENT, x -> x.sum(LEAST, MOST)));
    }

    private void count() {
        section("Promise 22: count");
        says("Returns a number.");
        test("of a new object", () -> counts(new LineLives(), 0, 0, 0, 1, 64, 0, 0, 0, 0));
        test("of one line", () -> counts(levels(1), 0, 1, 1, 1, 0, 1, 1, 0, 1));
        test("of 20 like lines", () -> counts(levels(20), 0, 20, 20, 1, 0, 20, 1, 19, 6));
        says("`what`: 0: the present moment; 1: lines; 2: those that live at present; 3: rows of places at present; "
                + "4: places without a line at present");
        range("what", 0, 8, (x, what) -> x.count(what));
        test("the last moment", () -> {
            LineLives x = new LineLives();
            x.go(99);
            is(x.count(0), 99);
        });
        test("a line at its first moment", () -> is(livingAt(40), 1));
        test("a line at its last moment", () -> is(livingAt(41), 1));
        test("a line before its life", () -> is(livingAt(39), 0));
        test("a line behind its life", () -> is(livingAt(42), 0));
        test("a line that lives counts though it is not lowest", () -> is(levels(20).count(2), 20));
        test("one row without lines", () -> is(new LineLives().count(3), 1));
        test("one place without a line", () -> {
            LineLives x = levels(1);
            x.span(0, 1, 63);
            is("places", x.count(4), 1);
            is("rows", x.count(3), 2);
        });
        test("all places but one without a line", () -> {
            LineLives x = levels(1);
            x.span(0, 63, 63);
            is("places", x.count(4), 63);
            is("rows", x.count(3), 2);
        });
        says("Returns the number.");
        test("0 is no NONE", () -> is(new LineLives().count(1), 0));
        says("Throws `IllegalArgumentException` if what is not 0 to 8");
        test("without lines", () -> refused(LineLives::new, ARGUMENT, x -> x.count(9)));
    }

    private void countOfTree() {
        says("5: steps by which the tree was made; 6: nodes that keep a line; 7: lines that are never lowest; "
                + "8: saved states");
        test("no steps if none lives", () -> {
            LineLives x = with("0x+0@1-1");
            is("steps", x.count(5), 0);
            is("nodes", x.count(6), 0);
        });
        test("steps of another moment are not counted", () -> {
            LineLives x = with("0x+0@0-0;0x+1;0x+2");
            is("at 0", x.count(5), 3);
            x.go(1);
            is("at 1", x.count(5), 2);
            x.go(0);
            is("at 0 again", x.count(5), 3);
        });
        test("the nodes of three lines", () -> {
            LineLives x = with("0x+0;0x+0;0x+0");
            x.span(0, 1, 62);
            x.span(1, 63, 63);
            x.span(2, 0, 0);
            is("nodes", x.count(6), 12);
            is("steps", x.count(5), 12);
        });
        test("none is never lowest", () -> is(with("1x+0;-1x+63").count(7), 0));
        test("lowest at another moment alone", () -> is(with("0x+0@0-98;0x+1").count(7), 0));
        test("19 of 20", () -> is(levels(20).count(7), 19));
        test("six saved states", () -> is(levels(6).count(8), 6));
        test("never more", () -> is(levels(7).count(8), 6));
        test("one less after undo", () -> {
            LineLives x = levels(7);
            x.undo();
            is(x.count(8), 5);
        });
    }

    private static void counts(LineLives x, int... due) {
        for (int what = 0; what < due.length; what++) {
            is("count(" + what + ")", x.count(what), due[what]);
        }
    }

    private static int livingAt(int moment) {
        LineLives x = part();
        x.go(moment);
        return x.count(2);
    }
}
