/** The boundary cases of lines as a text. */
final class GrammarBoundaries extends Boundaries {
    @Override
    void tell() {
        buffer();
        slopesInTexts();
        offsetsInTexts();
        momentsInTexts();
        linesWithoutMoments();
        leadingZeros();
        linesInTexts();
        nextCharacters();
        textsOfAnyLength();
    }

    private void buffer() {
        section("Input text");
        says("The buffer has at most 60 characters.");
        test("the 60th one", () -> {
            LineLives x = typed("1".repeat(59));
            is(x.append('2'), 60);
        });
        test("the 61st one", () -> refused(() -> typed("1".repeat(60)), STATE, x -> x.append('2')));
        test("a full one is read to its end", () -> is(typed("0x+0;".repeat(11) + "1x+23").addAll(), 12));
        test("a full one can be cleared and filled again", () -> {
            LineLives x = typed("1".repeat(60));
            x.clearBuffer();
            type(x, "2x+3");
            is("lines", x.addAll(), 1);
            line(x, 0, 2, 3);
        });
    }

    private void whole(String name, String text, int... due) {
        test(name + ": " + text, () -> {
            LineLives x = typed(text);
            is("first error", x.firstError(), text.length());
            is("lines", x.addAll(), 1);
            line(x, 0, due);
        });
    }

    /** No error, but not complete either. */
    private void begun(String name, String text) {
        error(name, text, text.length());
    }

    private void error(String name, String text, int at) {
        test(name + ": " + text, () -> {
            is("first error", typed(text).firstError(), at);
            refused(() -> {
                LineLives x = rich();
                x.clearBuffer();
                type(x, text);
                return x;
            }, ARGUMENT, x -> x.addAll());
        });
    }

    private void slopesInTexts() {
        says("a slope, 0 to 99, perhaps with \"-\" ahead of it");
        whole("the least one", "0x+1", 0, 1);
        whole("the greatest one", "99x+1", 99, 1);
        whole("the least one below 0", "-99x+1", -99, 1);
        whole("the least one with -", "-0x+1", 0, 1);
        whole("of two digits", "10x+1", 10, 1);
        error("too large", "100x+1", 2);
        error("too small", "-100x+1", 3);
        error("none", "x+1", 0);
        error("- alone", "-x+1", 1);
        error("two -", "--1x+1", 1);
        error("+ ahead of it", "+1x+1", 0);
        begun("without its end", "99");
        begun("- so far", "-");
        says("\"x\", \"+\" or \"-\"");
        error("another sign than x", "1y+1", 1);
        error("a large X", "1X+1", 1);
        error("two x", "1xx+1", 2);
        error("no x", "1+1", 1);
        error("neither + nor -", "1x1", 2);
        error("both + and -", "1x+-1", 3);
        error("two -", "1x--1", 3);
        begun("x so far", "1x");
        begun("+ so far", "1x+");
        begun("- so far", "1x-");
    }

    private void offsetsInTexts() {
        says("an offset, 0 to 9999");
        whole("the least one", "1x+0", 1, 0);
        whole("the least one with -", "1x-0", 1, 0);
        whole("the greatest one", "1x+9999", 1, 9999);
        whole("the least one below 0", "1x-9999", 1, -9999);
        whole("of four digits", "1x+1000", 1, 1000);
        error("too large", "1x+10000", 7);
        error("too large", "1x+99999", 7);
        error("too small", "1x-10000", 7);
        error("a sign before the digits", "1x+/", 3);
        error("a sign behind the digits", "1x+:", 3);
        error("x behind it", "1x+1x", 4);
        error("- behind it", "1x+1-", 4);
        error("none", "1x+;", 3);
        error("none but moments", "1x+@", 3);
    }

    private void momentsInTexts() {
        says("perhaps \"@\", a first moment, \"-\", and a last moment, 0 to 99, that is not less");
        whole("without them", "1x+2", 1, 2, 0, 63, 0, 99);
        whole("the least ones", "1x+2@0-0", 1, 2, 0, 63, 0, 0);
        whole("the greatest ones", "1x+2@99-99", 1, 2, 0, 63, 99, 99);
        whole("all", "1x+2@0-99", 1, 2, 0, 63, 0, 99);
        whole("behind an offset below 0", "1x-2@3-4", 1, -2, 0, 63, 3, 4);
        whole("like ones of two digits", "1x+2@50-50", 1, 2, 0, 63, 50, 50);
        whole("by 1 greater", "1x+2@9-10", 1, 2, 0, 63, 9, 10);
        whole("a second digit makes it great enough", "1x+2@5-45", 1, 2, 0, 63, 5, 45);
        error("a first one that is too large", "1x+2@100-", 7);
        error("a last one that is too large", "1x+2@0-100", 9);
        error("a last one that is less", "1x+2@5-4;", 8);
        error("a last one that is less, of two digits", "1x+2@51-50", 9);
        error("0 that is less", "1x+2@1-0", 7);
        error("a digit that no moment begins with, that is not less", "1x+2@50-4", 8);
        error("by its second digit", "1x+2@55-54", 9);
        error("10 that is less", "1x+2@11-10", 9);
        error("10 that is much less", "1x+2@99-1", 8);
        error("no first one", "1x+2@-5", 5);
        error("no last one", "1x+2@5-;", 7);
        error("no -", "1x+2@5;", 6);
        error("two -", "1x+2@5--", 7);
        error("@ again", "1x+2@5-6@", 8);
        error("- again", "1x+2@5-6-", 8);
        begun("@ so far", "1x+2@");
        begun("a first one so far", "1x+2@99");
        begun("- so far", "1x+2@99-");
        begun("a first digit so far", "1x+2@99-9");
        begun("a first digit that can become great enough", "1x+2@5-4");
        begun("a first digit that can just become great enough", "1x+2@59-5");
    }

    private void linesWithoutMoments() {
        says("Without moments a line lives from 0 to 99; its span is 0 to 63.");
        test("behind a line with moments", () -> {
            LineLives x = with("1x+2@5-6;3x+4");
            line(x, 0, 1, 2, 0, 63, 5, 6);
            line(x, 1, 3, 4, 0, 63, 0, 99);
        });
        test("for a line with a span and a life that is removed", () -> {
            LineLives x = with("1x+2@5-6");
            x.span(0, 7, 8);
            x.remove(0);
            type(x, "3x+4");
            x.addAll();
            line(x, 0, 3, 4, 0, 63, 0, 99);
        });
    }

    private void leadingZeros() {
        says("Numbers are without leading zeros.");
        error("a slope", "01x+1", 1);
        error("a slope of zeros", "00x+1", 1);
        error("a slope below 0", "-01x+1", 2);
        error("an offset", "1x+01", 4);
        error("an offset of zeros", "1x+00", 4);
        error("an offset below 0", "1x-01", 4);
        error("a first moment", "1x+1@01-", 6);
        error("a first moment of zeros", "1x+1@00-", 6);
        error("a last moment", "1x+1@0-01", 8);
        error("a last moment of zeros", "1x+1@0-00", 8);
    }

    private void linesInTexts() {
        says("Lines as a text are one or more lines with \";\" between them");
        begun("none", "");
        error("nothing before ;", ";", 0);
        begun("nothing behind ;", "1x+1;");
        error("nothing between", "1x+1;;", 5);
        error("another sign between", "1x+1,2x+2", 4);
        error("; behind a slope", "1;", 1);
        error("; behind x", "1x;", 2);
        error("an error in the second line", "1x+1;2x+02", 9);
        test("one", () -> is(typed("1x+1").addAll(), 1));
        test("two, - of the first one is not that of the second one", () -> {
            LineLives x = with("-1x-1@0-5;1x+1");
            line(x, 0, -1, -1, 0, 63, 0, 5);
            line(x, 1, 1, 1, 0, 63, 0, 99);
        });
        test("12, the most that the buffer holds", () -> is(typed("0x+0;".repeat(11) + "0x+0").addAll(), 12));
        test("13, the last one just begun", () ->
                refused(() -> typed("0x+0;".repeat(12)), ARGUMENT, x -> x.addAll()));
        test("the first moment of a line is not that of the next one", () -> {
            LineLives x = with("0x+0@90-95;0x+0@5-6");
            line(x, 0, 0, 0, 0, 63, 90, 95);
            line(x, 1, 0, 0, 0, 63, 5, 6);
        });
    }

    /** Of all characters, just these may come behind the text, or it is an error. */
    private void next(String text, String due) {
        test("behind \"" + text + "\"", () -> {
            for (char code = 33; code <= 126; code++) {
                int at = due.indexOf(code) < 0 ? text.length() : text.length() + 1;
                is("first error of " + text + code, typed(text + code).firstError(), at);
            }
        });
    }

    private void nextCharacters() {
        says("The buffer is read from left to right; a character is a syntax error if");
        String digits = "0123456789";
        next("", digits + "-");
        next("-", digits);
        next("0", "x");
        next("-0", "x");
        next("9", digits + "x");
        next("10", "x");
        next("1x", "+-");
        next("1x+", digits);
        next("1x-", digits);
        next("1x+0", "@;");
        next("1x+9", digits + "@;");
        next("1x-999", digits + "@;");
        next("1x+1000", "@;");
        next("1x+0@", digits);
        next("1x+0@0", "-");
        next("1x+0@9", digits + "-");
        next("1x+0@10", "-");
        next("1x+0@0-", digits);
        next("1x+0@1-", "123456789");
        next("1x+0@9-", "123456789");
        next("1x+0@10-", "123456789");
        next("1x+0@19-", "123456789");
        next("1x+0@20-", "23456789");
        next("1x+0@89-", "89");
        next("1x+0@90-", "9");
        next("1x+0@99-", "9");
        next("1x+0@0-0", ";");
        next("1x+0@0-9", digits + ";");
        next("1x+0@5-4", digits);
        next("1x+0@5-5", digits + ";");
        next("1x+0@40-4", digits);
        next("1x+0@45-4", "56789");
        next("1x+0@49-4", "9");
        next("1x+0@49-5", digits);
        next("1x+0@45-45", ";");
        next("1x+0@10-99", ";");
        next("1x+0;", digits + "-");
        next("1x+0@5-6;", digits + "-");
    }

    private void textsOfAnyLength() {
        says("a character is a syntax error if no lines as a text, of any length, begin with the characters before it "
                + "and this character");
        test("a text that ends behind the buffer", () -> is(typed("0x+0;".repeat(11) + "0x+0;").firstError(), 60));
        String begun = "-10x+1000@10-99;" + "-10x+1000;".repeat(4) + "-10x";
        test("a line that ends behind the buffer", () -> is(typed(begun).firstError(), 60));
        test("it can't be added", () -> refused(() -> typed(begun), ARGUMENT, x -> x.addAll()));
        test("a text with lines for which there is no room", () -> {
            LineLives x = levels(20);
            type(x, "0x+0;0x+0");
            is(x.firstError(), 9);
        });
        test("an error at the first character", () -> is(typed("!").firstError(), 0));
        test("an error at the 60th character", () -> is(typed("0x+0;".repeat(11) + "0x+0!").firstError(), 59));
        test("the least character", () -> is(typed("1x+1!").firstError(), 4));
        test("the greatest character", () -> is(typed("1x+1~").firstError(), 4));
    }
}
