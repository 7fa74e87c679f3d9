/** The boundary cases that the document's terms name of calls, places, moments and lines. */
final class TermsBoundaries extends Boundaries {
    @Override
    void tell() {
        calls();
        placesAndMoments();
        numbersOfLines();
        partsOfLines();
        whereLinesCount();
        lowerLines();
    }

    private void calls() {
        section("What it is");
        says("An object is used for at most 512 calls");
        test("the 512th call is answered", () -> {
            LineLives x = new LineLives();
            x.add(1, 0);
            x.add(-1, 63);
            for (int call = 3; call < 512; call++) {
                is("go", x.go(call % 100), call == 3 ? 0 : (call - 1) % 100);
            }
            is(x.value(40), 23);
        });
        test("the 512th call changes what it should", () -> {
            LineLives x = new LineLives();
            for (int call = 1; call < 511; call += 2) {
                is("add", x.add(call % 99, call), 0);
                is("remove", x.remove(0), 0);
            }
            is("the 511th", x.add(5, 6), 0);
            is("the 512th", x.lift(0, -7), -1);
        });
        test("512 digests are the same", () -> {
            LineLives x = rich();
            long first = x.digest();
            for (int call = 40; call <= 512; call++) {
                is("digest", x.digest(), first);
            }
        });
    }

    // ---- lines

    private void placesAndMoments() {
        section("Lines");
        says("Places are 0 to 63, moments 0 to 99.");
        test("the place 0 is one", () -> placeIsOne(0));
        test("the place 63 is one", () -> placeIsOne(63));
        test("the place -1 is none", () -> placeIsNone(-1));
        test("the place 64 is none", () -> placeIsNone(64));
        test("the moment 0 is one", () -> momentIsOne(0));
        test("the moment 99 is one", () -> momentIsOne(99));
        test("the moment -1 is none", () -> momentIsNone(-1));
        test("the moment 100 is none", () -> momentIsNone(100));
    }

    private static void placeIsOne(int place) {
        LineLives x = with("0x+5");
        is("lowest", x.lowest(place, 0), 0);
        is("value", x.value(place), 5);
        is("ranked", x.ranked(place, 0), 0);
        is("sum", x.sum(place, place), 5);
        is("changesAt", x.changesAt(place), NONE);
        is("turn", x.turn(0, place, 1), 5 - place);
        is("span", x.span(0, place, place), 64);
        is("places", x.line(0, 6), 1);
    }

    private static void placeIsNone(int place) {
        refused(Boundaries::rich, ARGUMENT, x -> x.lowest(place, 0));
        refused(Boundaries::rich, ARGUMENT, x -> x.value(place));
        refused(Boundaries::rich, ARGUMENT, x -> x.ranked(place, 0));
        refused(Boundaries::rich, ARGUMENT, x -> x.sum(place, place));
        refused(Boundaries::rich, ARGUMENT, x -> x.changesAt(place));
        refused(Boundaries::rich, ARGUMENT, x -> x.turn(0, place, 1));
        refused(Boundaries::rich, ARGUMENT, x -> x.span(0, place, place));
    }

    private static void momentIsOne(int moment) {
        LineLives x = with("0x+5");
        is("lowest", x.lowest(0, moment), 0);
        is("go", x.go(moment), 0);
        is("value", x.value(0), 5);
        is("live", x.live(0, moment, moment), 100);
        is("value then", x.value(0), 5);
        is("its first moment", x.line(0, 8), moment);
    }

    private static void momentIsNone(int moment) {
        refused(Boundaries::rich, ARGUMENT, x -> x.lowest(0, moment));
        refused(Boundaries::rich, ARGUMENT, x -> x.go(moment));
        refused(Boundaries::rich, ARGUMENT, x -> x.live(0, moment, moment));
    }

    private void numbersOfLines() {
        says("There are at most 20 lines");
        test("20 are not too many", () -> is(levels(20).count(1), 20));
        test("the 21st one is refused", () -> refused(Boundaries::full, STATE, x -> x.add(0, 0)));
        test("the 21st one is refused as a text", () -> refused(Boundaries::full, STATE, x -> x.addAll()));
        test("another one for a removed one", () -> {
            LineLives x = full();
            x.remove(3);
            is(x.add(0, 0), 19);
        });
        says("numbered from 0 in the order in which they came");
        test("the first one is 0", () -> is(new LineLives().add(3, 4), 0));
        test("the 20th one is 19", () -> is(levels(19).add(3, 4), 19));
        test("those of a text come behind the others", () -> {
            LineLives x = levels(2);
            type(x, "1x+7;2x+8");
            x.addAll();
            line(x, 2, 1, 7);
            line(x, 3, 2, 8);
        });
        says("(if one is removed, those behind it have numbers that are less by 1)");
        test("the first one of 20", () -> removed(20, 0));
        test("one in the middle", () -> removed(20, 9));
        test("the one before the last one", () -> removed(20, 18));
        test("the last one of 20", () -> removed(20, 19));
        test("the first one of two", () -> removed(2, 0));
        test("the only one", () -> removed(1, 0));
        test("those that are pruned", () -> {
            LineLives x = with("0x+9;0x+5@9-9;0x+10;0x+4@8-8;0x+11;0x+3@99-99");
            is("removed", x.prune(), 2);
            line(x, 0, 0, 9);
            line(x, 1, 0, 5);
            line(x, 2, 0, 4);
            line(x, 3, 0, 3, 0, 63, 99, 99);
        });
    }

    private static void removed(int lines, int line) {
        LineLives x = levels(lines);
        is("lines", x.remove(line), lines - 1);
        for (int i = 0; i < lines - 1; i++) {
            is("offset of " + i, x.line(i, 1), i < line ? i : i + 1);
        }
        refused(() -> {
            LineLives y = levels(lines);
            y.remove(line);
            return y;
        }, INDEX, y -> y.line(lines - 1, 0));
    }

    private void partsOfLines() {
        says("A line has a slope, -99 to 99, an offset, -9999 to 9999");
        test("the least ones", () -> {
            LineLives x = new LineLives();
            x.add(-99, -9999);
            line(x, 0, -99, -9999);
        });
        test("the greatest ones", () -> {
            LineLives x = new LineLives();
            x.add(99, 9999);
            line(x, 0, 99, 9999);
        });
        test("the least ones of a text", () -> line(with("-99x-9999"), 0, -99, -9999));
        test("the greatest ones of a text", () -> line(with("99x+9999"), 0, 99, 9999));
        says("each last one is at least the first one");
        test("a span of one place", () -> {
            LineLives x = with("0x+0");
            x.span(0, 30, 30);
            line(x, 0, 0, 0, 30, 30, 0, 99, 1);
        });
        test("a life of one moment", () -> {
            LineLives x = with("0x+0");
            x.live(0, 30, 30);
            line(x, 0, 0, 0, 0, 63, 30, 30);
        });
        test("a last place before the first one", () ->
                refused(Boundaries::rich, ARGUMENT, x -> x.span(0, 30, 29)));
        test("a last moment before the first one", () ->
                refused(Boundaries::rich, ARGUMENT, x -> x.live(0, 30, 29)));
        test("a last moment of a text before the first one", () ->
                refused(() -> typed("0x+0@30-29"), ARGUMENT, x -> x.addAll()));
    }

    private void whereLinesCount() {
        says("Its value at a place x of its span is the slope times x plus the offset.");
        test("the greatest value", () -> is(with("99x+9999").value(63), 16236));
        test("the least value", () -> is(with("-99x-9999").value(63), -16236));
        test("the value at the place 0", () -> is(with("-99x+9999").value(0), 9999));
        test("slope and offset against each other", () -> is(with("-99x+9999").value(63), 3762));
        says("It counts at a place and a moment if the place is in its span and the moment is in its life.");
        test("before its first place", () -> is(someLine().lowest(9, 50), NONE));
        test("at its first place", () -> is(someLine().lowest(10, 50), 0));
        test("at its last place", () -> is(someLine().lowest(20, 50), 0));
        test("behind its last place", () -> is(someLine().lowest(21, 50), NONE));
        test("before its first moment", () -> is(someLine().lowest(15, 29), NONE));
        test("at its first moment", () -> is(someLine().lowest(15, 30), 0));
        test("at its last moment", () -> is(someLine().lowest(15, 70), 0));
        test("behind its last moment", () -> is(someLine().lowest(15, 71), NONE));
        test("at its first place and moment", () -> is(someLine().lowest(10, 30), 0));
        test("at its last place and moment", () -> is(someLine().lowest(20, 70), 0));
        test("at one place and one moment", () -> {
            LineLives x = with("0x+0");
            x.span(0, 5, 5);
            x.live(0, 6, 6);
            is("there", x.lowest(5, 6), 0);
            is("one place less", x.lowest(4, 6), NONE);
            is("one place more", x.lowest(6, 6), NONE);
            is("one moment less", x.lowest(5, 5), NONE);
            is("one moment more", x.lowest(5, 7), NONE);
        });
    }

    /** A line over the places 10 to 20 that lives from 30 to 70. */
    private static LineLives someLine() {
        LineLives x = with("0x+0@30-70");
        x.span(0, 10, 20);
        return x;
    }

    private void lowerLines() {
        says("of like values the one with the lower number");
        test("at all places", () -> is(with("3x+5;3x+5").line(0, 6), 64));
        test("at the place where they meet", () -> is(with("0x+31;1x+0").lowest(31, 0), 0));
        test("at the place where they meet, the other way", () -> is(with("1x+0;0x+31").lowest(31, 0), 0));
        test("of three", () -> is(with("0x+6;0x+5;0x+5;0x+5").lowest(0, 0), 1));
        test("of 20", () -> {
            LineLives x = new LineLives();
            for (int i = 0; i < 20; i++) {
                x.add(0, 7);
            }
            is("lowest", x.lowest(63, 99), 0);
            is("the last rank", x.ranked(63, 19), 19);
        });
        test("the first one that counts there", () -> {
            LineLives x = with("0x+5;0x+5;0x+5");
            x.span(0, 1, 63);
            x.live(1, 1, 99);
            is(x.lowest(0, 0), 2);
        });
        test("by 1 lower", () -> is(with("0x+5;0x+4").lowest(0, 0), 1));
        test("by 1 higher", () -> is(with("0x+5;0x+6").lowest(0, 0), 0));
        test("a value below 0", () -> is(with("0x+0;0x-1").lowest(0, 0), 1));
        says("there may be none");
        test("without lines", () -> is(new LineLives().lowest(0, 0), NONE));
        test("when all are removed", () -> {
            LineLives x = with("0x+0");
            x.remove(0);
            is(x.lowest(0, 0), NONE);
        });
        test("with 20 lines elsewhere", () -> {
            LineLives x = levels(20);
            for (int i = 0; i < 20; i++) {
                x.span(i, 1, 63);
            }
            is("there", x.lowest(0, 0), NONE);
            is("beside it", x.lowest(1, 0), 0);
        });
        says("There is a present moment, at first 0.");
        test("its number", () -> is(new LineLives().count(0), 0));
        test("a line of the moment 0", () -> is(with("0x+3@0-0").value(0), 3));
        test("a line of the moment 1", () -> refused(() -> with("0x+3@1-1"), STATE, x -> x.value(0)));
    }
}
