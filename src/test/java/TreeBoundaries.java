/** The boundary cases of the tree: its nodes, and lines that are put into them. */
final class TreeBoundaries extends Boundaries {
    @Override
    void tell() {
        nodes();
        linesInTheTree();
        wayOfTheLowest();
        spansInTheTree();
        steps();
        linesThatGoOn();
        tiesInTheTree();
    }

    private void nodes() {
        section("Tree");
        says("The tree has 127 nodes, numbered from 1.");
        test("the node 1", () -> is(new LineLives().node(1, 0), NONE));
        test("the node 127", () -> is(new LineLives().node(127, 0), NONE));
        test("the node 0", () -> refused(Boundaries::rich, INDEX, x -> x.node(0, 0)));
        test("the node 128", () -> refused(Boundaries::rich, INDEX, x -> x.node(128, 0)));
        says("The node 1 is for the places 0 to 63; a node for the places from p to q with p less than q");
        test("the places of all nodes", () -> placesBelow(new LineLives(), 1, 0, 63));
        says("rounded down");
        test("the middle of 0 to 63", () -> is(new LineLives().node(1, 3), 31));
        test("the middle of 32 to 63", () -> is(new LineLives().node(3, 3), 47));
        test("the middle of 0 and 1", () -> is(new LineLives().node(32, 3), 0));
        test("the middle of 62 and 63", () -> is(new LineLives().node(63, 3), 62));
        says("(A node for one place has the middle p.)");
        test("the middles of all places", () -> {
            LineLives x = new LineLives();
            for (int place = 0; place < 64; place++) {
                is("first of " + place, x.node(64 + place, 1), place);
                is("last of " + place, x.node(64 + place, 2), place);
                is("middle of " + place, x.node(64 + place, 3), place);
            }
        });
    }

    private static void placesBelow(LineLives x, int node, int p, int q) {
        int m = (p + q) / 2;
        is("first of " + node, x.node(node, 1), p);
        is("last of " + node, x.node(node, 2), q);
        is("middle of " + node, x.node(node, 3), m);
        if (p < q) {
            placesBelow(x, 2 * node, p, m);
            placesBelow(x, 2 * node + 1, m + 1, q);
        }
    }

    private void linesInTheTree() {
        says("Each node keeps a line, or none.");
        test("each node can keep one", () -> {
            for (int place = 0; place < 64; place++) {
                for (int level = 0; level < 7; level++) {
                    LineLives x = with("0x+0");
                    int node = 64 + place >> level;
                    x.span(0, x.node(node, 1), x.node(node, 2));
                    node(x, node, 0, 1);
                    is("nodes that keep one", x.count(6), 1);
                }
            }
        });
        says("at first no node keeps a line");
        test("without lines", () -> emptyTree(new LineLives()));
        test("when the only line is removed", () -> {
            LineLives x = with("0x+0");
            is("before", x.node(1, 0), 0);
            x.remove(0);
            emptyTree(x);
        });
        test("with lines that do not live", () -> emptyTree(with("0x+0@1-99;1x+0@50-50")));
        says("then the lines that live then are put in");
        test("before the first moment", () -> stepsAt(29, 0));
        test("at the first moment", () -> stepsAt(30, 1));
        test("at the last moment", () -> stepsAt(70, 1));
        test("behind the last moment", () -> stepsAt(71, 0));
        says("one by one, by ascending numbers");
        test("the lowest one last", () -> {
            LineLives x = with("1x+0;-1x+63;0x-99");
            node(x, 1, 2, 3);
            node(x, 3, 1, 1);
            is("steps", x.count(5), 4);
        });
        test("the lowest one first", () -> {
            LineLives x = with("0x-99;-1x+63;1x+0");
            node(x, 1, 0, 3);
            is("steps", x.count(5), 3);
        });
    }

    private void wayOfTheLowest() {
        says("So the lowest line at a place is one that a node keeps, on the way from the node 1 to that of the place.");
        test("with many lines", () -> wayToAll(() -> manyLines(0)));
        test("with 64 rows", () -> wayToAll(LooksBoundaries::manyRows));
        test("with many lines at 50", () -> wayToAll(() -> manyLines(50)));
        test("without lines", () -> wayToAll(LineLives::new));
        test("with like lines", () -> wayToAll(() -> with("0x+5;1x-26;-1x+36;0x+5;1x-26;-1x+36")));
    }

    private static void emptyTree(LineLives x) {
        for (int node = 1; node <= 127; node++) {
            node(x, node, NONE, 0);
        }
        is("steps", x.count(5), 0);
        is("nodes that keep a line", x.count(6), 0);
    }

    private static void stepsAt(int moment, int due) {
        LineLives x = with("0x+0@30-70");
        x.go(moment);
        is("steps", x.count(5), due);
        is("kept", x.node(1, 0), due - 1);
    }

    private static LineLives manyLines(int moment) {
        LineLives x = new LineLives();
        for (int i = 0; i < 20; i++) {
            x.add(i * 7 % 11 - 5, i * 13 % 37 * 3 - 50);
            x.span(i, i * 5 % 30, 63 - i * 3 % 31);
            x.live(i, i * 17 % 60, 99 - i * 3 % 40);
        }
        x.go(moment);
        return x;
    }

    private static void wayToAll(Making making) {
        for (int place = 0; place < 64; place++) {
            LineLives x = making.make();
            int lowest = x.lowest(place, x.count(0));
            boolean found = lowest == NONE;
            for (int node = 64 + place; node > 0; node /= 2) {
                found |= x.node(node, 0) == lowest;
            }
            Checks.same("a node on the way to " + place + " keeps " + lowest, found, true);
        }
    }

    private void spansInTheTree() {
        says("If its span has no place of the node, nothing happens.");
        test("a span that ends before the node", () -> {
            LineLives x = spanned(0, 31);
            node(x, 3, NONE, 0);
            node(x, 2, 0, 1);
        });
        test("a span that begins behind the node", () -> {
            LineLives x = spanned(32, 63);
            node(x, 2, NONE, 0);
            node(x, 3, 0, 1);
        });
        test("the first place alone", () -> oneNode(spanned(0, 0), 64));
        test("the last place alone", () -> oneNode(spanned(63, 63), 127));
        says("If it does not have all places of the node, the line is put into the first child, and then into the "
                + "second one.");
        test("all but the first place", () -> keepers(spanned(1, 63), 65, 33, 17, 9, 5, 3));
        test("all but the last place", () -> keepers(spanned(0, 62), 2, 6, 14, 30, 62, 126));
        test("all but both", () -> keepers(spanned(1, 62), 65, 33, 17, 9, 5, 6, 14, 30, 62, 126));
        test("two places of two halves", () -> keepers(spanned(31, 32), 95, 96));
        test("all places", () -> keepers(spanned(0, 63), 1));
        test("one place", () -> keepers(spanned(21, 21), 85));
    }

    private static LineLives spanned(int first, int last) {
        LineLives x = with("0x+0");
        x.span(0, first, last);
        return x;
    }

    private static void oneNode(LineLives x, int node) {
        node(x, node, 0, 1);
        is("steps", x.count(5), 1);
        is("nodes that keep a line", x.count(6), 1);
    }

    /** Just these nodes keep the line 0, each after one step. */
    private static void keepers(LineLives x, int... nodes) {
        for (int node : nodes) {
            node(x, node, 0, 1);
        }
        is("steps", x.count(5), nodes.length);
        is("nodes that keep a line", x.count(6), nodes.length);
        is("nodes of the line", x.line(0, 7), nodes.length);
    }

    private void steps() {
        says("Otherwise this is a step. If the node keeps no line, it keeps this one.");
        test("the first line of a node", () -> oneNode(with("-99x-9999"), 1));
        says("If it keeps one, and the new one is lower at the middle, the node keeps the new one");
        test("lower by 1 at the middle", () -> node(with("0x+31;-1x+61"), 1, 1, 2));
        test("higher by 1 at the middle", () -> {
            LineLives x = with("0x+31;-1x+63");
            node(x, 1, 0, 2);
            node(x, 3, 1, 1);
        });
        test("it goes on instead of the new one", () -> {
            LineLives x = with("1x+0;0x+10");
            node(x, 1, 1, 2);
            node(x, 2, 0, 1);
        });
    }

    private void linesThatGoOn() {
        says("If the node is for one place, the one that goes on is gone.");
        test("a higher line at one place", () -> atOnePlace(6, 0));
        test("a lower line at one place", () -> atOnePlace(4, 1));
        test("a like line at one place", () -> atOnePlace(5, 0));
        test("at the last place, whose node is the last one", () -> {
            LineLives x = with("0x+5;0x+6;0x+4");
            for (int i = 0; i < 3; i++) {
                x.span(i, 63, 63);
            }
            node(x, 127, 2, 3);
            is("steps", x.count(5), 3);
        });
        says("if that is lower than the kept one at the first place of the node, it is put into the first child");
        test("lower by 1 at the first place", () -> twoSteps("0x+0;1x-1", 2));
        says("otherwise, if it is lower at the last place of the node, into the second one");
        test("lower by 1 at the last place", () -> twoSteps("0x+0;-1x+62", 3));
        says("otherwise it is gone");
        test("higher at both ends", () -> {
            LineLives x = with("0x+0;0x+1");
            node(x, 1, 0, 2);
            is("steps", x.count(5), 2);
        });
        test("through all levels", () -> {
            LineLives x = with("0x+0;10x-1;20x-2;30x-3;40x-4;50x-5;60x-6");
            int[] nodes = {1, 2, 4, 8, 16, 65, 32};
            int[] steps = {7, 6, 5, 4, 3, 1, 2};
            for (int line = 0; line < 7; line++) {
                node(x, nodes[line], line, steps[line]);
            }
            is("steps", x.count(5), 28);
            is("nodes that keep a line", x.count(6), 7);
        });
    }

    private static void atOnePlace(int offset, int due) {
        LineLives x = with("0x+5");
        x.add(0, offset);
        x.span(0, 20, 20);
        x.span(1, 20, 20);
        node(x, 84, due, 2);
        is("steps", x.count(5), 2);
        is("nodes that keep a line", x.count(6), 1);
    }

    /** The second line is kept by a child of the node 1. */
    private static void twoSteps(String text, int child) {
        LineLives x = with(text);
        node(x, 1, 0, 2);
        node(x, child, 1, 1);
        is("steps", x.count(5), 3);
        is("nodes that keep a line", x.count(6), 2);
    }

    private void tiesInTheTree() {
        says("and the new one is lower at the middle");
        test("like at the middle, the kept one came first", () -> node(with("1x+0;0x+31"), 1, 0, 2));
        test("like at the middle, the one that goes on came first", () -> {
            // 2 sends 0 from the node 1 to 2, where 1 is kept and has the same value at 15.
            LineLives x = with("0x+10;1x-5;-1x+30");
            node(x, 1, 2, 3);
            node(x, 2, 0, 2);
            node(x, 4, 1, 1);
            is("steps", x.count(5), 6);
        });
        says("if that is lower than the kept one at the first place");
        test("like at the first place, the one that goes on came first", () -> node(with("1x+0;0x+0"), 2, 0, 1));
        test("like at the first place, the kept one came first", () -> {
            LineLives x = with("0x+0;1x+0");
            node(x, 2, NONE, 0);
            is("steps", x.count(5), 2);
        });
        says("if it is lower at the last place");
        test("like at the last place, the one that goes on came first", () -> node(with("-1x+63;0x+0"), 3, 0, 1));
        test("like at the last place, the kept one came first", () -> {
            LineLives x = with("0x+0;-1x+63");
            node(x, 3, NONE, 0);
            is("steps", x.count(5), 2);
        });
        says("otherwise it is gone");
        test("like everywhere", () -> {
            LineLives x = with("2x+7;2x+7");
            node(x, 1, 0, 2);
            is("steps", x.count(5), 2);
        });
    }
}
