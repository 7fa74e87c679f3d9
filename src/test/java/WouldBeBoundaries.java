import java.math.BigInteger;

/** The boundary cases of the promises 23 to 29: what would be, the mean and the digest. */
final class WouldBeBoundaries extends Boundaries {
    @Override
    void tell() {
        ifAdded();
        highest();
        worth();
        changesAt();
        meet();
        mean();
        digest();
        digestOfParts();
        digestOfPlaces();
        digestOfMeanAndBuffer();
    }

    private void ifAdded() {
        section("Promise 23: ifAdded");
        says("`slope`: -99 to 99");
        range("slope", -99, 99, (x, slope) -> x.ifAdded(slope, 0));
        says("`offset`: -9999 to 9999");
        range("offset", -9999, 9999, (x, offset) -> x.ifAdded(0, offset));
        says("Returns at how many places it would be lowest at the present moment, if it was added");
        test("at all without lines", () -> is(new LineLives().ifAdded(99, 9999), 64));
        test("at none", () -> is(with("0x+0").ifAdded(0, 1), 0));
        test("at all", () -> is(with("0x+0").ifAdded(0, -1), 64));
        test("at the first place alone", () -> is(with("0x+0").ifAdded(1, -1), 1));
        test("at the last place alone", () -> is(with("0x+0").ifAdded(-1, 62), 1));
        test("at the one place without a line", () -> is(without(63, 63).ifAdded(99, 9999), 1));
        test("at the first place without a line", () -> is(without(0, 0).ifAdded(99, 9999), 1));
        test("below a line that does not live", () -> is(with("0x+0@1-99").ifAdded(99, 9999), 64));
        test("at the first moment of a lower one", () -> {
            LineLives x = with("0x+0@40-41");
            x.go(40);
            is(x.ifAdded(0, 0), 0);
        });
        test("the least one below the greatest one", () -> is(with("99x+9999").ifAdded(-99, -9999), 64));
        test("the greatest one above the least one", () -> is(with("-99x-9999").ifAdded(99, 9999), 0));
        says("as the last line");
        test("like values do not count", () -> is(with("3x+5").ifAdded(3, 5), 0));
        test("like values at one place do not count", () -> is(with("0x+0").ifAdded(1, 0), 0));
        says("whether there are 20 does not matter");
        test("with 20", () -> is(levels(20).ifAdded(-1, 1), 62));
        test("with 20, none is added", () -> {
            LineLives x = levels(20);
            x.ifAdded(0, -1);
            is("lines", x.count(1), 20);
            is("lowest", x.lowest(0, 0), 0);
        });
        says("Throws `IllegalArgumentException` if an argument is out of range");
        test("both", () -> refused(Boundaries::rich, ARGUMENT, x -> x.ifAdded(100, 10000)));
        test("with 20 lines", () -> refused(Boundaries::full, ARGUMENT, x -> x.ifAdded(-100, 0)));
    }

    /** A least line over all places but these at one of the ends. */
    private static LineLives without(int first, int last) {
        LineLives x = with("-99x-9999");
        x.span(0, first == 0 ? last + 1 : 0, first == 0 ? 63 : first - 1);
        return x;
    }

    private void highest() {
        section("Promise 24: highest");
        says("`slope`: -99 to 99");
        range("slope", -99, 99, (x, slope) -> x.highest(slope));
        says("Returns the greatest offset, -9999 to 9999, with which a line that is added would be lowest somewhere "
                + "at the present moment");
        test("9999 without lines", () -> is(new LineLives().highest(99), 9999));
        test("9999 with 20 lines elsewhere", () -> {
            LineLives x = levels(20);
            for (int i = 0; i < 20; i++) {
                x.span(i, 0, 62);
            }
            is(x.highest(99), 9999);
        });
        test("9999 where there is none, at the first place", () -> is(without(0, 0).highest(99), 9999));
        test("just 9999", () -> is(with("99x+9937").highest(98), 9999));
        test("just less than 9999", () -> is(with("99x+9936").highest(98), 9998));
        test("9999 though more would do", () -> is(with("99x+9999").highest(-99), 9999));
        test("just -9999", () -> is(with("0x-9998").highest(0), -9999));
        test("by the first place", () -> is(with("0x+10").highest(5), 9));
        test("by the last place", () -> is(with("0x+10").highest(-5), 9 + 315));
        test("by a like value it would not be lowest", () -> {
            LineLives x = with("3x+5");
            is("highest", x.highest(3), 4);
            is("with it", x.ifAdded(3, 4), 64);
            is("with one more", x.ifAdded(3, 5), 0);
        });
        test("below 20 lines", () -> is(levels(20).highest(0), -1));
        test("a line of another moment does not matter", () -> is(with("0x-9999@1-99;0x+3").highest(0), 2));
        says("-10000 if there is none");
        test("just none", () -> is(with("0x-9999").highest(0), -10000));
        test("none by far", () -> is(with("-99x-9999").highest(99), -10000));
        test("at another slope there is one", () -> is(with("0x-9999").highest(-1), -9937));
        says("Throws `IllegalArgumentException` if slope is out of range");
        test("without lines", () -> refused(LineLives::new, ARGUMENT, x -> x.highest(100)));
        test("with 20 lines", () -> refused(Boundaries::full, ARGUMENT, x -> x.highest(-100)));
    }

    private void worth() {
        section("Promise 25: worth");
        says("`line`: its number");
        lineNumber("line", (x, line) -> x.worth(line));
        says("Returns how much greater the sum of all least values at present would be, if it was removed, over the "
                + "places where there would still be another one");
        test("one that is lowest nowhere", () -> is(levels(2).worth(1), 0));
        test("one that does not live", () -> is(with("0x+0@1-1;0x+5").worth(0), 0));
        test("one of like ones", () -> is(with("0x+5;0x+5").worth(0), 0));
        test("one that is lowest at all places", () -> is(levels(2).worth(0), 64));
        test("one that is lowest at the first place", () -> is(with("0x+0;1x-1").worth(1), 1));
        test("one that is lowest at the last place", () -> is(with("0x+0;-1x+62").worth(1), 1));
        test("the most", () -> is(with("99x+9999;-99x-9999").worth(1), 2 * 839520));
        test("the next one at each place", () -> {
            LineLives x = with("0x+0;0x+1;0x+2");
            x.span(1, 0, 9);
            is(x.worth(0), 10 + 108);
        });
        test("the next one lives at present", () -> is(with("0x+0;0x+1@1-99;0x+3").worth(0), 192));
        test("another place without a line does not matter", () -> {
            LineLives x = levels(2);
            x.span(0, 5, 5);
            x.span(1, 5, 6);
            is(x.worth(0), 1);
        });
        says("NONE if there is a place where it is lowest, and no other line counts");
        test("alone", () -> is(levels(1).worth(0), NONE));
        test("alone at the first place", () -> is(aloneAt(0), NONE));
        test("alone at the last place", () -> is(aloneAt(63), NONE));
        test("alone at one place within", () -> is(aloneAt(30), NONE));
        test("the other one alone there", () -> {
            LineLives x = levels(2);
            x.span(0, 0, 62);
            is("the line 0", x.worth(0), 63);
            is("the line 1", x.worth(1), NONE);
        });
        test("alone at another moment", () -> is(with("0x+0;0x+1@0-50").worth(0), 64));
        test("alone at present", () -> {
            LineLives x = with("0x+0;0x+1@0-50");
            x.go(51);
            is("the line 0", x.worth(0), NONE);
            is("the line 1", x.worth(1), 0);
        });
        says("Throws `IndexOutOfBoundsException` if there is no such line");
        test("the 21st one", () -> refused(Boundaries::full, INDEX, x -> x.worth(20)));
    }

    /** The worth of a line that is alone at one place. */
    private static int aloneAt(int place) {
        LineLives x = levels(3);
        x.span(1, 0, place == 0 ? 0 : place - 1);
        x.span(2, place == 63 ? 63 : place + 1, 63);
        if (place == 0) {
            x.span(1, 1, 63);
        }
        if (place == 63) {
            x.span(2, 0, 62);
        }
        return x.worth(0);
    }

    private void changesAt() {
        section("Promise 26: changesAt");
        says("`place`: 0 to 63");
        range("place", 0, 63, (x, place) -> x.changesAt(place));
        says("Returns the first moment, later than the present one, at which the lowest line at this place is another "
                + "one");
        test("at once", () -> is(changesFrom("0x+0@5-99;0x+1", 4), 5));
        test("at 1", () -> is(changesFrom("0x+0@1-99;0x+1", 0), 1));
        test("at 99", () -> is(changesFrom("0x+0@99-99;0x+1", 0), 99));
        test("at 99 from 98 on", () -> is(changesFrom("0x+0@99-99;0x+1", 98), 99));
        test("not at the present moment", () -> is(changesFrom("0x+0@5-99;0x+1", 5), NONE));
        test("not before it", () -> is(changesFrom("0x+0@5-9;0x+1", 10), NONE));
        test("behind its last moment", () -> is(changesFrom("0x+0@5-9;0x+1", 9), 10));
        test("the first one of two changes", () -> is(changesFrom("0x+0@5-9;0x+1@0-20;0x+2", 0), 5));
        test("a like one with a greater number changes nothing", () -> is(changesFrom("0x+0;0x+0@5-9", 0), NONE));
        test("a like one with a lower number changes it", () -> is(changesFrom("0x+0@5-9;0x+0", 0), 5));
        test("a higher one that comes changes nothing", () -> is(changesFrom("0x+0;0x+1@5-9", 0), NONE));
        test("a change at another place does not matter", () -> {
            LineLives x = with("0x+0@5-9;0x+1");
            x.span(0, 30, 30);
            is("before it", x.changesAt(29), NONE);
            is("there", x.changesAt(30), 5);
            is("behind it", x.changesAt(31), NONE);
        });
        says("or there is one where there was none");
        test("from the moment 1 on", () -> is(changesFrom("0x+0@1-99", 0), 1));
        test("at 99 alone", () -> is(changesFrom("0x+0@99-99", 0), 99));
        says("or none any more");
        test("behind the moment 0", () -> is(changesFrom("0x+0@0-0", 0), 1));
        test("at 99", () -> is(changesFrom("0x+0@0-98", 0), 99));
        says("NONE if there is none up to 99");
        test("a line of all moments", () -> is(changesFrom("0x+0", 0), NONE));
        test("at the moment 99", () -> is(changesFrom("0x+0@0-98", 99), NONE));
        test("without lines", () -> is(new LineLives().changesAt(63), NONE));
        test("without lines at 99", () -> {
            LineLives x = new LineLives();
            x.go(99);
            is(x.changesAt(0), NONE);
        });
        says("Throws `IllegalArgumentException` if place is out of range");
        test("without lines", () -> refused(LineLives::new, ARGUMENT, x -> x.changesAt(64)));
    }

    private static int changesFrom(String text, int moment) {
        LineLives x = with(text);
        x.go(moment);
        return x.changesAt(0);
    }

    private void meet() {
        section("Promise 27: meet");
        says("`one`: the number of a line");
        lineNumber("one", (x, one) -> x.meet(one, one == 0 ? 1 : 0));
        says("`other`: the number of another line");
        lineNumber("other", (x, other) -> x.meet(other == 0 ? 1 : 0, other));
        says("Returns the first place that both spans have, and at which the other one is lower than the one");
        test("at the first place", () -> is(with("0x+0;1x-1").meet(0, 1), 0));
        test("at the last place", () -> is(with("0x+0;-1x+62").meet(0, 1), 63));
        test("never, like at the last place", () -> is(with("0x+0;-1x+63").meet(0, 1), NONE));
        test("like at the last place, the other one first", () -> is(with("-1x+63;0x+0").meet(1, 0), 63));
        test("like at the first place, the other one first", () -> is(with("1x+0;0x+0").meet(1, 0), 0));
        test("like everywhere, the other one first", () -> is(with("3x+5;3x+5").meet(1, 0), 0));
        test("like everywhere, the one first", () -> is(with("3x+5;3x+5").meet(0, 1), NONE));
        test("from the first place of the one on", () -> is(spans(20, 63, 0, 63).meet(0, 1), 20));
        test("from the first place of the other one on", () -> is(spans(0, 63, 20, 63).meet(0, 1), 20));
        test("with one place in both", () -> is(spans(0, 20, 20, 63).meet(0, 1), 20));
        test("with one place in both, the other way", () -> is(spans(20, 63, 0, 20).meet(0, 1), 20));
        says("(whether they live does not matter)");
        test("at different moments", () -> is(with("0x+1@0-5;0x+0@6-99").meet(0, 1), 0));
        test("both before their lives", () -> is(with("0x+1@5-5;0x+0@5-5").meet(0, 1), 0));
        says("NONE if there is none");
        test("no place in both", () -> is(spans(0, 20, 21, 63).meet(0, 1), NONE));
        test("no place in both, the other way", () -> is(spans(21, 63, 0, 20).meet(0, 1), NONE));
        test("it is higher everywhere", () -> is(with("0x+0;0x+1").meet(0, 1), NONE));
        test("it is lower where it is not", () -> {
            LineLives x = with("0x+30;1x+0");
            x.span(1, 30, 63);
            is("like at its first place", x.meet(0, 1), NONE);
            x.span(1, 29, 63);
            is("lower at its first place", x.meet(0, 1), 29);
        });
        says("Throws `IndexOutOfBoundsException` if there is no such line");
        test("neither of them", () -> refused(Boundaries::rich, INDEX, x -> x.meet(5, 6)));
        test("twice the same that there is not", () -> refused(Boundaries::rich, INDEX, x -> x.meet(5, 5)));
        test("the 21st one", () -> refused(Boundaries::full, INDEX, x -> x.meet(19, 20)));
        says("Throws `IllegalArgumentException` if both are the same");
        test("the first one", () -> refused(Boundaries::rich, ARGUMENT, x -> x.meet(0, 0)));
        test("the last one", () -> refused(Boundaries::full, ARGUMENT, x -> x.meet(19, 19)));
    }

    /** Two lines with these spans; the second one is lower. */
    private static LineLives spans(int first0, int last0, int first1, int last1) {
        LineLives x = with("0x+1;0x+0");
        x.span(0, first0, last0);
        x.span(1, first1, last1);
        return x;
    }

    private void mean() {
        section("Promise 28: mean");
        says("Returns the sum of all least values, as a double, divided by the number of places with a line");
        test("of all places", () -> means(with("1x+0"), 31.5));
        test("of one place", () -> {
            LineLives x = with("1x+0");
            x.span(0, 63, 63);
            means(x, 63.0);
        });
        test("of three places", () -> {
            LineLives x = with("1x+0");
            x.span(0, 0, 2);
            x.lift(0, 9);
            means(x, 30.0 / 3);
            x.turn(0, 0, 3);
            x.span(0, 0, 3);
            means(x, 54.0 / 4);
        });
        test("a share that does not come out even", () -> {
            LineLives x = with("0x+1;0x+0");
            x.span(0, 0, 0);
            x.span(1, 1, 2);
            means(x, 1.0 / 3);
        });
        test("below 0", () -> means(with("-1x-1"), -32.5));
        test("the greatest one", () -> means(with("99x+9999"), 839520.0 / 64));
        test("the least one", () -> means(with("-99x-9999"), -839520.0 / 64));
        test("the one next to 0", () -> {
            LineLives x = with("0x+1;0x+0");
            x.span(0, 0, 0);
            x.span(1, 1, 63);
            means(x, 1.0 / 64);
        });
        test("0 with lines", () -> means(with("0x+0"), 0.0));
        test("0 with lines on both sides of 0", () -> {
            LineLives x = with("0x+5;0x-5");
            x.span(0, 0, 31);
            x.span(1, 32, 63);
            means(x, 0.0);
        });
        test("at present", () -> {
            LineLives x = with("0x+5@40-41;0x+9");
            x.go(41);
            means(x, 5.0);
            x.go(42);
            means(x, 9.0);
        });
        says("0.0 if there are none");
        test("without lines", () -> means(new LineLives(), 0.0));
        test("with a line that does not live", () -> means(with("0x+5@1-1"), 0.0));
    }

    /** Compared as objects: so 0.0 is not -0.0. */
    private static void means(LineLives x, double due) {
        Checks.same("mean", (Object) x.mean(), due);
    }

    private void digest() {
        section("Promise 29: digest");
        says("The hash starts at 2591. For each value v of the following list, in order, the hash becomes "
                + "31 * hash + v, in long arithmetic with overflow.");
        test("a new object, by hand", () -> is(new LineLives().digest(), hash(NEW_OBJECT)));
        test("the hash overflows", () -> {
            BigInteger whole = wholeHash(NEW_OBJECT);
            Checks.same("more than 64 bits", whole.bitLength() > 64, true);
            is(new LineLives().digest(), whole.longValue());
        });
        test("one line, by hand", () -> {
            // The line 0 has no meet with itself.
            long[] values = {0, 1, 1, 1, 0, 1, 1, 0, 1, 0, 7, 0, 63, 0, 99, 64, 1, 0, -1, 1, 0, 0, 63, 31, 1, 0, 64, 0,
                448, 0, -1, -1, 0, -1, -1, 0, -1, -1, 0, -1, -1, 64, 6, Double.doubleToLongBits(7.0), 0};
            is(level(7).digest(), hash(values));
        });
        test("nothing is changed", () -> {
            LineLives x = rich();
            is(x.digest(), x.digest());
        });
    }

    /** The values of a new object: the counts, sum, the four places, ifAdded, highest, mean and the buffer's length. */
    private static final long[] NEW_OBJECT = {0, 0, 0, 1, 64, 0, 0, 0, 0, 0, 64, -1, 0, -1, -1, -1, -1, -1, -1, -1, -1,
        -1, -1, -1, -1, 64, 9999, 0, 0};

    private static LineLives level(int offset) {
        LineLives x = new LineLives();
        x.add(0, offset);
        return x;
    }

    private static BigInteger wholeHash(long... values) {
        BigInteger hash = BigInteger.valueOf(2591);
        for (long value : values) {
            hash = hash.multiply(BigInteger.valueOf(31)).add(BigInteger.valueOf(value));
        }
        return hash;
    }

    private static long hash(long... values) {
        return wholeHash(values).longValue();
    }

    private void digestOfParts() {
        says("for each line its properties 0 to 8, worth, and meet(its number, 0) (but not for the line 0)");
        test("two lines", () -> asTold(() -> with("1x+0;-1x+63"), ""));
        test("20 lines", () -> asTold(() -> levels(20), ""));
        test("lines that do not live", () -> asTold(() -> with("1x+0@1-1;-1x+63@99-99"), ""));
        says("for each node that keeps a line its number and its properties 0 to 4");
        test("no node", () -> asTold(() -> new LineLives(), ""));
        test("the node 127", () -> asTold(() -> at(63, 63), ""));
        test("the node 64", () -> asTold(() -> at(0, 0), ""));
        test("ten nodes", () -> asTold(() -> at(1, 62), ""));
        says("for each row its properties 0 to 2");
        test("39 rows", () -> asTold(() -> {
            LineLives x = levels(20);
            for (int i = 0; i < 19; i++) {
                x.span(i, 2 * i + 1, 2 * i + 1);
            }
            return x;
        }, ""));
        test("64 rows", () -> asTold(LooksBoundaries::manyRows, ""));
    }

    private void digestOfPlaces() {
        says("for each of the places 0, 21, 42 and 63 lowest at the moment 50, ranked with 1, and changesAt");
        for (int place : new int[] {0, 21, 42, 63}) {
            for (int moment : new int[] {0, 49, 50, 51, 99}) {
                test("lines at the place " + place + " alone, at " + moment, () -> asTold(() -> {
                    LineLives x = with("0x+0@50-50;0x+1@0-60;0x+2");
                    for (int line = 0; line < 3; line++) {
                        x.span(line, place, place);
                    }
                    x.go(moment);
                    return x;
                }, ""));
            }
        }
        says("sum of 0 to 63");
        test("with values at both ends alone", () -> asTold(() -> {
            LineLives x = with("0x+5;0x+7");
            x.span(0, 0, 0);
            x.span(1, 63, 63);
            return x;
        }, ""));
        says("ifAdded of 0 and 0; highest of 1");
        for (String slope : new String[] {"-3", "-2", "-1", "0", "1", "2", "3"}) {
            for (String offset : new String[] {"-1", "-0", "+1"}) {
                String text = slope + "x" + offset;
                test("above and below " + text, () -> asTold(() -> with(text), ""));
            }
        }
        test("a line like that of ifAdded", () -> asTold(() -> with("0x+0"), ""));
        test("none for highest", () -> asTold(() -> with("-99x-9999"), ""));
        test("the greatest one for highest", () -> asTold(() -> with("99x+9999"), ""));
    }

    private void digestOfMeanAndBuffer() {
        says("the bits of mean (as Double.doubleToLongBits)");
        for (int offset : new int[] {1, -1, 2, -2, 3, 1023, 1024, 1025, 9999, -9999}) {
            test("the mean " + offset, () -> asTold(() -> level(offset), ""));
        }
        for (int places = 3; places <= 64; places++) {
            int last = places - 1;
            test("the mean of 1 at one of " + places + " places", () -> asTold(() -> {
                LineLives x = with("0x+1;0x+0");
                x.span(0, 0, 0);
                x.span(1, 1, last);
                return x;
            }, ""));
        }
        test("the greatest mean", () -> asTold(() -> with("99x+9999"), ""));
        test("the least mean", () -> asTold(() -> with("-99x-9999"), ""));
        says("the length of the buffer and each of its character codes");
        test("one character", () -> asTold(() -> typed("!"), "!"));
        test("60 characters", () -> asTold(() -> typed("~!".repeat(30)), "~!".repeat(30)));
        test("none after it is cleared", () -> {
            LineLives x = typed("~!".repeat(30));
            x.clearBuffer();
            is(x.digest(), hash(NEW_OBJECT));
        });
        test("none after its lines are added", () -> asTold(() -> with("0x+7"), ""));
        test("all of it", () -> asTold(() -> rich(), "1x+"));
        test("all of it with 20 lines", () -> asTold(() -> full(), "1x+1"));
    }

    private static LineLives at(int first, int last) {
        LineLives x = levels(1);
        x.span(0, first, last);
        return x;
    }

    /** The digest is that of the answers of the other calls. */
    private static void asTold(Making making, String buffer) {
        is(making.make().digest(), PlainDigest.of(making::make, buffer));
    }
}
