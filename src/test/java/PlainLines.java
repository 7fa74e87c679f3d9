import java.util.ArrayDeque;
import java.util.ArrayList;
import java.util.Arrays;
import java.util.Deque;
import java.util.List;
import java.util.regex.Matcher;
import java.util.regex.Pattern;

/** The same calls as LineLives has, worked out anew at each call, as near to the document's words as can be. */
final class PlainLines {
    private record Line(int slope, int offset, int firstPlace, int lastPlace, int firstMoment, int lastMoment) {
        int at(int place) {
            return slope * place + offset;
        }

        boolean counts(int place, int moment) {
            return firstPlace <= place && place <= lastPlace && firstMoment <= moment && moment <= lastMoment;
        }

        int[] numbers() {
            return new int[] {slope, offset, firstPlace, lastPlace, firstMoment, lastMoment};
        }
    }

    private record State(List<Line> lines, int moment) {
    }

    private static final Pattern ONE_LINE =
            Pattern.compile("(-?(?:0|[1-9]\\d?))x([+-])(0|[1-9]\\d{0,3})(?:@(0|[1-9]\\d?)-(0|[1-9]\\d?))?");
    // Whatever has been read of a line without an error, one of these makes it whole.
    private static final String[] ENDINGS = {"", "0x+0", "x+0", "+0", "0", "0-99", "-99", "99", "9"};

    private List<Line> lines = new ArrayList<>();
    private int moment = 0;
    private final StringBuilder buffer = new StringBuilder();
    private final Deque<State> saved = new ArrayDeque<>();
    // The tree of the last call of makeTree.
    private final int[] kept = new int[128];
    private final int[] steps = new int[128];

    private static void need(boolean holds) {
        if (!holds) {
            throw new IllegalArgumentException();
        }
    }

    private static void needState(boolean holds) {
        if (!holds) {
            throw new IllegalStateException();
        }
    }

    private void needLine(int line) {
        if (line < 0 || line >= lines.size()) {
            throw new IndexOutOfBoundsException();
        }
    }

    private static boolean in(int number, int least, int most) {
        return least <= number && number <= most;
    }

    private void save() {
        saved.addLast(new State(new ArrayList<>(lines), moment));
        if (saved.size() > 6) {
            saved.removeFirst();
        }
    }

    public int add(int slope, int offset) {
        need(in(slope, -99, 99) && in(offset, -9999, 9999));
        needState(lines.size() < 20);
        save();
        lines.add(new Line(slope, offset, 0, 63, 0, 99));
        return lines.size() - 1;
    }

    public int span(int line, int first, int last) {
        needLine(line);
        need(in(first, 0, 63) && in(last, first, 63));
        save();
        Line l = lines.get(line);
        lines.set(line, new Line(l.slope, l.offset, first, last, l.firstMoment, l.lastMoment));
        return l.lastPlace - l.firstPlace + 1;
    }

    public int live(int line, int first, int last) {
        needLine(line);
        need(in(first, 0, 99) && in(last, first, 99));
        save();
        Line l = lines.get(line);
        lines.set(line, new Line(l.slope, l.offset, l.firstPlace, l.lastPlace, first, last));
        return l.lastMoment - l.firstMoment + 1;
    }

    private int move(int line, int slope, int offset) {
        needState(in(offset, -9999, 9999));
        save();
        Line l = lines.get(line);
        lines.set(line, new Line(slope, offset, l.firstPlace, l.lastPlace, l.firstMoment, l.lastMoment));
        return offset;
    }

    public int lift(int line, int by) {
        needLine(line);
        need(in(by, -9999, 9999));
        return move(line, lines.get(line).slope, lines.get(line).offset + by);
    }

    public int turn(int line, int place, int slope) {
        needLine(line);
        need(in(place, 0, 63) && in(slope, -99, 99));
        return move(line, slope, lines.get(line).at(place) - slope * place);
    }

    public int remove(int line) {
        needLine(line);
        save();
        lines.remove(line);
        return lines.size();
    }

    public int prune() {
        save();
        List<Line> left = new ArrayList<>();
        for (int i = 0; i < lines.size(); i++) {
            if (firstReign(i) != -1) {
                left.add(lines.get(i));
            }
        }
        int removed = lines.size() - left.size();
        lines = left;
        return removed;
    }

    public int go(int to) {
        need(in(to, 0, 99));
        save();
        int previous = moment;
        moment = to;
        return previous;
    }

    public int append(int code) {
        need(in(code, 33, 126));
        needState(buffer.length() < 60);
        buffer.append((char) code);
        return buffer.length();
    }

    public int clearBuffer() {
        int length = buffer.length();
        buffer.setLength(0);
        return length;
    }

    /** The lines of a text; null if it is not complete. */
    private static List<Line> read(String text) {
        List<Line> read = new ArrayList<>();
        for (String part : text.split(";", -1)) {
            Matcher m = ONE_LINE.matcher(part);
            if (!m.matches()) {
                return null;
            }
            int offset = Integer.parseInt(m.group(3));
            int first = m.group(4) == null ? 0 : Integer.parseInt(m.group(4));
            int last = m.group(5) == null ? 99 : Integer.parseInt(m.group(5));
            if (last < first) {
                return null;
            }
            int slope = Integer.parseInt(m.group(1));
            read.add(new Line(slope, m.group(2).equals("-") ? -offset : offset, 0, 63, first, last));
        }
        return read;
    }

    private static boolean canGoOn(String start) {
        return Arrays.stream(ENDINGS).anyMatch(ending -> read(start + ending) != null);
    }

    public int firstError() {
        for (int i = 0; i < buffer.length(); i++) {
            if (!canGoOn(buffer.substring(0, i + 1))) {
                return i;
            }
        }
        return buffer.length();
    }

    public int addAll() {
        List<Line> read = read(buffer.toString());
        need(read != null);
        needState(lines.size() + read.size() <= 20);
        save();
        lines.addAll(read);
        buffer.setLength(0);
        return lines.size();
    }

    public int undo() {
        needState(!saved.isEmpty());
        State state = saved.removeLast();
        lines = state.lines;
        moment = state.moment;
        return saved.size();
    }

    /** The lines that count, the lowest one first. */
    private List<Integer> order(int place, int when) {
        List<Integer> order = new ArrayList<>();
        for (int i = 0; i < lines.size(); i++) {
            if (lines.get(i).counts(place, when)) {
                order.add(i);
            }
        }
        order.sort((a, b) -> lower(a, b, place) ? -1 : lower(b, a, place) ? 1 : 0);
        return order;
    }

    private boolean lower(int one, int other, int place) {
        int a = lines.get(one).at(place);
        int b = lines.get(other).at(place);
        return a < b || a == b && one < other;
    }

    /** Whether no other line that counts there is lower. */
    private boolean isLowest(int line, int place, int when) {
        if (!lines.get(line).counts(place, when)) {
            return false;
        }
        for (int i = 0; i < lines.size(); i++) {
            if (i != line && lines.get(i).counts(place, when) && lower(i, line, place)) {
                return false;
            }
        }
        return true;
    }

    private int firstReign(int line) {
        for (int when = 0; when < 100; when++) {
            for (int place = 0; place < 64; place++) {
                if (isLowest(line, place, when)) {
                    return when;
                }
            }
        }
        return -1;
    }

    public int line(int line, int what) {
        needLine(line);
        need(in(what, 0, 8));
        int number = 0;
        switch (what) {
            case 6:
                for (int place = 0; place < 64; place++) {
                    number += isLowest(line, place, moment) ? 1 : 0;
                }
                return number;
            case 7:
                makeTree();
                for (int node = 1; node < 128; node++) {
                    number += kept[node] == line ? 1 : 0;
                }
                return number;
            case 8:
                return firstReign(line);
            default:
                return lines.get(line).numbers()[what];
        }
    }

    public int lowest(int place, int when) {
        need(in(place, 0, 63) && in(when, 0, 99));
        List<Integer> order = order(place, when);
        return order.isEmpty() ? -1 : order.get(0);
    }

    public int value(int place) {
        need(in(place, 0, 63));
        List<Integer> order = order(place, moment);
        needState(!order.isEmpty());
        return lines.get(order.get(0)).at(place);
    }

    public int ranked(int place, int rank) {
        need(in(place, 0, 63) && rank >= 0);
        List<Integer> order = order(place, moment);
        return rank < order.size() ? order.get(rank) : -1;
    }

    private void makeTree() {
        Arrays.fill(kept, -1);
        Arrays.fill(steps, 0);
        for (int i = 0; i < lines.size(); i++) {
            if (in(moment, lines.get(i).firstMoment, lines.get(i).lastMoment)) {
                put(i, 1, 0, 63);
            }
        }
    }

    private void put(int line, int node, int p, int q) {
        int in = 0;
        for (int place = p; place <= q; place++) {
            in += in(place, lines.get(line).firstPlace, lines.get(line).lastPlace) ? 1 : 0;
        }
        int m = (p + q) / 2;
        if (in == 0) {
            return;
        }
        if (in < q - p + 1) {
            put(line, 2 * node, p, m);
            put(line, 2 * node + 1, m + 1, q);
            return;
        }
        steps[node]++;
        int other = kept[node];
        if (other == -1) {
            kept[node] = line;
            return;
        }
        int keeps = lower(line, other, m) ? line : other;
        int goes = keeps == line ? other : line;
        kept[node] = keeps;
        if (p == q) {
            return;
        }
        if (lower(goes, keeps, p)) {
            put(goes, 2 * node, p, m);
        } else if (lower(goes, keeps, q)) {
            put(goes, 2 * node + 1, m + 1, q);
        }
    }

    public int node(int node, int what) {
        if (!in(node, 1, 127)) {
            throw new IndexOutOfBoundsException();
        }
        need(in(what, 0, 4));
        makeTree();
        int level = 31 - Integer.numberOfLeadingZeros(node);
        int width = 64 >> level;
        int first = (node - (1 << level)) * width;
        int last = first + width - 1;
        return new int[] {kept[node], first, last, (first + last) / 2, steps[node]}[what];
    }

    public int row(int row, int what) {
        need(row >= 0 && in(what, 0, 2));
        List<int[]> rows = rows();
        return row < rows.size() ? rows.get(row)[what] : -1;
    }

    private List<int[]> rows() {
        List<int[]> rows = new ArrayList<>();
        for (int place = 0; place < 64; place++) {
            int line = lowest(place, moment);
            if (!rows.isEmpty() && rows.get(rows.size() - 1)[2] == line) {
                rows.get(rows.size() - 1)[1]++;
            } else {
                rows.add(new int[] {place, 1, line});
            }
        }
        return rows;
    }

    public int sum(int first, int last) {
        need(in(first, 0, 63) && in(last, first, 63));
        int sum = 0;
        for (int place = first; place <= last; place++) {
            int line = lowest(place, moment);
            sum += line == -1 ? 0 : lines.get(line).at(place);
        }
        return sum;
    }

    public int count(int what) {
        need(in(what, 0, 8));
        int number = 0;
        switch (what) {
            case 0:
                return moment;
            case 1:
                return lines.size();
            case 2:
                return (int) lines.stream().filter(l -> in(moment, l.firstMoment, l.lastMoment)).count();
            case 3:
                return rows().size();
            case 4:
                for (int place = 0; place < 64; place++) {
                    number += order(place, moment).isEmpty() ? 1 : 0;
                }
                return number;
            case 5:
                makeTree();
                return Arrays.stream(steps).sum();
            case 6:
                makeTree();
                return (int) Arrays.stream(kept).skip(1).filter(line -> line != -1).count();
            case 7:
                for (int i = 0; i < lines.size(); i++) {
                    number += firstReign(i) == -1 ? 1 : 0;
                }
                return number;
            default:
                return saved.size();
        }
    }

    public int ifAdded(int slope, int offset) {
        need(in(slope, -99, 99) && in(offset, -9999, 9999));
        lines.add(new Line(slope, offset, 0, 63, 0, 99));
        int places = line(lines.size() - 1, 6);
        lines.remove(lines.size() - 1);
        return places;
    }

    public int highest(int slope) {
        need(in(slope, -99, 99));
        // A line that would be lowest somewhere would be so with each lesser offset too.
        int can = -10000;
        int cannot = 10000;
        while (cannot - can > 1) {
            int offset = Math.floorDiv(can + cannot, 2);
            if (ifAdded(slope, offset) > 0) {
                can = offset;
            } else {
                cannot = offset;
            }
        }
        return can;
    }

    public int worth(int line) {
        needLine(line);
        int more = 0;
        for (int place = 0; place < 64; place++) {
            List<Integer> order = order(place, moment);
            if (!order.isEmpty() && order.get(0) == line) {
                if (order.size() == 1) {
                    return -1;
                }
                more += lines.get(order.get(1)).at(place) - lines.get(line).at(place);
            }
        }
        return more;
    }

    public int changesAt(int place) {
        need(in(place, 0, 63));
        for (int when = moment + 1; when < 100; when++) {
            if (lowest(place, when) != lowest(place, moment)) {
                return when;
            }
        }
        return -1;
    }

    public int meet(int one, int other) {
        needLine(one);
        needLine(other);
        need(one != other);
        Line a = lines.get(one);
        Line b = lines.get(other);
        int last = Math.min(a.lastPlace, b.lastPlace);
        for (int place = Math.max(a.firstPlace, b.firstPlace); place <= last; place++) {
            if (lower(other, one, place)) {
                return place;
            }
        }
        return -1;
    }

    public double mean() {
        int places = 64 - count(4);
        return places == 0 ? 0.0 : (double) sum(0, 63) / places;
    }

    public long digest() {
        List<Long> values = new ArrayList<>();
        for (int what = 0; what <= 8; what++) {
            values.add((long) count(what));
        }
        for (int line = 0; line < lines.size(); line++) {
            for (int what = 0; what <= 8; what++) {
                values.add((long) line(line, what));
            }
            values.add((long) worth(line));
            if (line > 0) {
                values.add((long) meet(line, 0));
            }
        }
        tellNodesAndRows(values);
        values.add((long) sum(0, 63));
        for (int place = 0; place <= 63; place += 21) {
            values.add((long) lowest(place, 50));
            values.add((long) ranked(place, 1));
            values.add((long) changesAt(place));
        }
        values.add((long) ifAdded(0, 0));
        values.add((long) highest(1));
        values.add(Double.doubleToLongBits(mean()));
        values.add((long) buffer.length());
        buffer.chars().forEach(code -> values.add((long) code));
        return values.stream().reduce(2591L, (hash, value) -> 31 * hash + value);
    }

    private void tellNodesAndRows(List<Long> values) {
        for (int node = 1; node <= 127; node++) {
            if (node(node, 0) != -1) {
                values.add((long) node);
                for (int what = 0; what <= 4; what++) {
                    values.add((long) node(node, what));
                }
            }
        }
        for (int[] row : rows()) {
            for (int number : row) {
                values.add((long) number);
            }
        }
    }
}
