import java.util.Arrays;

/** The lowest of many lines over places and moments, as ../shared/DOC.md promises it. */
public final class LineLives {
    public static final int NONE = -1;

    private static final int PLACES = 64;
    private static final int MOMENTS = 100;
    private static final int NODES = 127;
    private static final int MOST_LINES = 20;
    private static final int MOST_SLOPE = 99;
    private static final int MOST_OFFSET = 9999;
    private static final int MOST_CHARACTERS = 60;
    private static final int MOST_SAVED = 6;

    // What is kept of a line, by the numbers with which line(..) asks for it.
    private static final int SLOPE = 0;
    private static final int OFFSET = 1;
    private static final int FIRST_PLACE = 2;
    private static final int LAST_PLACE = 3;
    private static final int FIRST_MOMENT = 4;
    private static final int LAST_MOMENT = 5;
    private static final int PROPERTIES = 6;

    private final Lines lines;
    private final History history;
    private final Text text;
    private final Present present;
    private final Tree tree;
    private final Reigns reigns;

    public LineLives() {
        lines = new Lines();
        history = new History();
        text = new Text();
        present = new Present(lines);
        tree = new Tree(lines);
        reigns = new Reigns(lines);
    }

    // ---- lines

    public int add(int slope, int offset) throws IllegalArgumentException, IllegalStateException {
        if (!isSlope(slope) || !isOffset(offset)) {
            throw new IllegalArgumentException("slope or offset out of range");
        }
        if (lines.size() >= MOST_LINES) {
            throw new IllegalStateException("no room for another line");
        }
        history.save(lines);
        lines.addLine(slope, offset, 0, MOMENTS - 1);
        return lines.size() - 1;
    }

    public int span(int line, int first, int last) throws IndexOutOfBoundsException, IllegalArgumentException {
        if (!lines.has(line)) {
            throw new IndexOutOfBoundsException("no such line");
        }
        if (!isStretch(first, last, PLACES)) {
            throw new IllegalArgumentException("no such span of places");
        }
        return changeStretch(line, FIRST_PLACE, first, LAST_PLACE, last);
    }

    public int live(int line, int first, int last) throws IndexOutOfBoundsException, IllegalArgumentException {
        if (!lines.has(line)) {
            throw new IndexOutOfBoundsException("no such line");
        }
        if (!isStretch(first, last, MOMENTS)) {
            throw new IllegalArgumentException("no such life");
        }
        return changeStretch(line, FIRST_MOMENT, first, LAST_MOMENT, last);
    }

    public int lift(int line, int by)
            throws IndexOutOfBoundsException, IllegalArgumentException, IllegalStateException {
        if (!lines.has(line)) {
            throw new IndexOutOfBoundsException("no such line");
        }
        if (!isOffset(by)) {
            throw new IllegalArgumentException("by out of range");
        }
        int offset = lines.property(line, OFFSET) + by;
        if (!isOffset(offset)) {
            throw new IllegalStateException("the offset would be out of range");
        }
        history.save(lines);
        lines.change(line, OFFSET, offset);
        return offset;
    }

    public int turn(int line, int place, int slope)
            throws IndexOutOfBoundsException, IllegalArgumentException, IllegalStateException {
        if (!lines.has(line)) {
            throw new IndexOutOfBoundsException("no such line");
        }
        if (!isPlace(place) || !isSlope(slope)) {
            throw new IllegalArgumentException("place or slope out of range");
        }
        int offset = lines.valueAt(line, place) - slope * place;
        if (!isOffset(offset)) {
            throw new IllegalStateException("the offset would be out of range");
        }
        history.save(lines);
        lines.change(line, SLOPE, slope);
        lines.change(line, OFFSET, offset);
        return offset;
    }

    public int remove(int line) throws IndexOutOfBoundsException {
        if (!lines.has(line)) {
            throw new IndexOutOfBoundsException("no such line");
        }
        history.save(lines);
        lines.drop(line);
        return lines.size();
    }

    public int prune() {
        int never = reigns.neverLowest();
        history.save(lines);
        // From the last line, so that a removed one changes no number that is still to come.
        for (int line = lines.size() - 1; line >= 0; line--) {
            if ((never >> line & 1) != 0) {
                lines.drop(line);
            }
        }
        return Integer.bitCount(never);
    }

    public int go(int moment) throws IllegalArgumentException {
        if (!isMoment(moment)) {
            throw new IllegalArgumentException("moment out of range");
        }
        int previous = lines.moment();
        history.save(lines);
        lines.moveTo(moment);
        return previous;
    }

    // ---- texts

    public int append(int code) throws IllegalArgumentException, IllegalStateException {
        if (code < 33 || code > 126) {
            throw new IllegalArgumentException("no such character");
        }
        if (text.length() >= MOST_CHARACTERS) {
            throw new IllegalStateException("the buffer is full");
        }
        text.push(code);
        return text.length();
    }

    public int clearBuffer() {
        int had = text.length();
        text.empty();
        return had;
    }

    public int firstError() {
        return text.errorIndex();
    }

    public int addAll() throws IllegalArgumentException, IllegalStateException {
        if (!text.isWhole()) {
            throw new IllegalArgumentException("the buffer is not complete");
        }
        if (lines.size() + text.lineCount() > MOST_LINES) {
            throw new IllegalStateException("no room for so many lines");
        }
        history.save(lines);
        text.writeTo(lines);
        text.empty();
        return lines.size();
    }

    public int undo() throws IllegalStateException {
        if (history.size() == 0) {
            throw new IllegalStateException("no state is saved");
        }
        history.restore(lines);
        return history.size();
    }

    // ---- looks; nothing is changed

    public int line(int line, int what) throws IndexOutOfBoundsException, IllegalArgumentException {
        if (!lines.has(line)) {
            throw new IndexOutOfBoundsException("no such line");
        }
        if (what < 0 || what > PROPERTIES + 2) {
            throw new IllegalArgumentException("no such property");
        }
        switch (what) {
            case PROPERTIES:
                return present.placesOf(line);
            case PROPERTIES + 1:
                return tree.nodesOf(line);
            case PROPERTIES + 2:
                return reigns.firstMoment(line);
            default:
                return lines.property(line, what);
        }
    }

    public int lowest(int place, int moment) throws IllegalArgumentException {
        if (!isPlace(place) || !isMoment(moment)) {
            throw new IllegalArgumentException("place or moment out of range");
        }
        return lines.lowestBut(NONE, place, moment);
    }

    public int value(int place) throws IllegalArgumentException, IllegalStateException {
        if (!isPlace(place)) {
            throw new IllegalArgumentException("place out of range");
        }
        int lowest = present.lineAt(place);
        if (lowest == NONE) {
            throw new IllegalStateException("no line counts there");
        }
        return lines.valueAt(lowest, place);
    }

    public int ranked(int place, int rank) throws IllegalArgumentException {
        if (!isPlace(place) || rank < 0) {
            throw new IllegalArgumentException("place or rank out of range");
        }
        for (int line = 0; line < lines.size(); line++) {
            if (lines.counts(line, place, lines.moment()) && lines.rankOf(line, place) == rank) {
                return line;
            }
        }
        return NONE;
    }

    public int node(int node, int what) throws IndexOutOfBoundsException, IllegalArgumentException {
        if (node < 1 || node > NODES) {
            throw new IndexOutOfBoundsException("no such node");
        }
        if (what < 0 || what > 4) {
            throw new IllegalArgumentException("no such property");
        }
        switch (what) {
            case 0:
                return tree.lineOf(node);
            case 1:
                return tree.firstPlace(node);
            case 2:
                return tree.lastPlace(node);
            case 3:
                return tree.middle(node);
            default:
                return tree.stepsAt(node);
        }
    }

    public int row(int row, int what) throws IllegalArgumentException {
        if (row < 0 || what < 0 || what > 2) {
            throw new IllegalArgumentException("no such row or property");
        }
        if (row >= present.rowCount()) {
            return NONE;
        }
        int first = present.rowStart(row);
        switch (what) {
            case 0:
                return first;
            case 1:
                return present.rowStart(row + 1) - first;
            default:
                return present.lineAt(first);
        }
    }

    public int sum(int first, int last) throws IllegalArgumentException {
        if (!isStretch(first, last, PLACES)) {
            throw new IllegalArgumentException("no such span of places");
        }
        int sum = 0;
        for (int place = first; place <= last; place++) {
            int lowest = present.lineAt(place);
            if (lowest != NONE) {
                sum += lines.valueAt(lowest, place);
            }
        }
        return sum;
    }

    public int count(int what) throws IllegalArgumentException {
        switch (what) {
            case 0:
                return lines.moment();
            case 1:
                return lines.size();
            case 2:
                return lines.living();
            case 3:
                return present.rowCount();
            case 4:
                return present.placesOf(NONE);
            case 5:
                return tree.allSteps();
            case 6:
                return NODES - tree.nodesOf(NONE);
            case 7:
                return Integer.bitCount(reigns.neverLowest());
            case 8:
                return history.size();
            default:
                throw new IllegalArgumentException("no such number");
        }
    }

    // ---- what would be; nothing is changed

    public int ifAdded(int slope, int offset) throws IllegalArgumentException {
        if (!isSlope(slope) || !isOffset(offset)) {
            throw new IllegalArgumentException("slope or offset out of range");
        }
        int places = 0;
        for (int place = 0; place < PLACES; place++) {
            int lowest = present.lineAt(place);
            // The line would be the last one, so with a like value it is not the lower one.
            if (lowest == NONE || slope * place + offset < lines.valueAt(lowest, place)) {
                places++;
            }
        }
        return places;
    }

    public int highest(int slope) throws IllegalArgumentException {
        if (!isSlope(slope)) {
            throw new IllegalArgumentException("slope out of range");
        }
        int best = -MOST_OFFSET - 1;
        for (int place = 0; place < PLACES; place++) {
            int lowest = present.lineAt(place);
            if (lowest == NONE) {
                return MOST_OFFSET;
            }
            best = Math.max(best, lines.valueAt(lowest, place) - 1 - slope * place);
        }
        return Math.min(best, MOST_OFFSET);
    }

    public int worth(int line) throws IndexOutOfBoundsException {
        if (!lines.has(line)) {
            throw new IndexOutOfBoundsException("no such line");
        }
        int more = 0;
        for (int place = 0; place < PLACES; place++) {
            if (present.lineAt(place) == line) {
                int next = lines.lowestBut(line, place, lines.moment());
                if (next == NONE) {
                    return NONE;
                }
                more += lines.valueAt(next, place) - lines.valueAt(line, place);
            }
        }
        return more;
    }

    public int changesAt(int place) throws IllegalArgumentException {
        if (!isPlace(place)) {
            throw new IllegalArgumentException("place out of range");
        }
        int lowest = present.lineAt(place);
        for (int moment = lines.moment() + 1; moment < MOMENTS; moment++) {
            if (lines.lowestBut(NONE, place, moment) != lowest) {
                return moment;
            }
        }
        return NONE;
    }

    public int meet(int one, int other) throws IndexOutOfBoundsException, IllegalArgumentException {
        if (!lines.has(one) || !lines.has(other)) {
            throw new IndexOutOfBoundsException("no such line");
        }
        if (one == other) {
            throw new IllegalArgumentException("both are the same line");
        }
        for (int place = 0; place < PLACES; place++) {
            if (lines.spans(one, place) && lines.spans(other, place) && lines.isLower(other, one, place)) {
                return place;
            }
        }
        return NONE;
    }

    public double mean() {
        int places = PLACES - present.placesOf(NONE);
        if (places == 0) {
            return 0.0;
        }
        return (double) sum(0, PLACES - 1) / places;
    }

    public long digest() {
        long hash = 2591;
        for (int what = 0; what <= 8; what++) {
            hash = mixed(hash, count(what));
        }
        hash = mixedLines(hash);
        hash = mixedTree(hash);
        hash = mixedPlaces(hash);
        hash = mixed(hash, ifAdded(0, 0));
        hash = mixed(hash, highest(1));
        hash = mixed(hash, bitsOf(mean()));
        hash = mixed(hash, text.length());
        for (int index = 0; index < text.length(); index++) {
            hash = mixed(hash, text.codeAt(index));
        }
        return hash;
    }

    // ---- parts of the digest

    private long mixedLines(long before) {
        long hash = before;
        for (int line = 0; line < lines.size(); line++) {
            for (int what = 0; what <= 8; what++) {
                hash = mixed(hash, line(line, what));
            }
            hash = mixed(hash, worth(line));
            if (line != 0) {
                hash = mixed(hash, meet(line, 0));
            }
        }
        return hash;
    }

    private long mixedTree(long before) {
        long hash = before;
        for (int node = 1; node <= NODES; node++) {
            if (tree.lineOf(node) != NONE) {
                hash = mixed(hash, node);
                for (int what = 0; what <= 4; what++) {
                    hash = mixed(hash, node(node, what));
                }
            }
        }
        return hash;
    }

    private long mixedPlaces(long before) {
        long hash = before;
        for (int row = 0; row < present.rowCount(); row++) {
            for (int what = 0; what <= 2; what++) {
                hash = mixed(hash, row(row, what));
            }
        }
        hash = mixed(hash, sum(0, PLACES - 1));
        for (int place = 0; place < PLACES; place += 21) {
            hash = mixed(hash, lowest(place, 50));
            hash = mixed(hash, ranked(place, 1));
            hash = mixed(hash, changesAt(place));
        }
        return hash;
    }

    private static long mixed(long hash, long number) {
        return 31 * hash + number;
    }

    /**
     * What Double.doubleToLongBits answers, which the library of LANGUAGE.md does not have; for 0.0 and for
     * numbers whose size is at least 1 / PLACES, as a mean's is. Doubling and halving such a number is exact.
     */
    private static long bitsOf(double number) {
        if (number == 0.0) {
            return 0;
        }
        double size = number < 0 ? -number : number;
        long exponent = 1023;
        for (; size >= 2.0 && exponent < 2046; exponent++) {
            size = size / 2.0;
        }
        for (; size < 1.0 && exponent > 1; exponent--) {
            size = size * 2.0;
        }
        long fraction = (long) ((size - 1.0) * (double) (1L << 52));
        long sign = number < 0 ? 1L << 63 : 0;
        return sign | exponent << 52 | fraction;
    }

    // ---- arguments

    private static boolean isPlace(int place) {
        return place >= 0 && place < PLACES;
    }

    private static boolean isMoment(int moment) {
        return moment >= 0 && moment < MOMENTS;
    }

    private static boolean isSlope(int slope) {
        return slope >= -MOST_SLOPE && slope <= MOST_SLOPE;
    }

    private static boolean isOffset(int offset) {
        return offset >= -MOST_OFFSET && offset <= MOST_OFFSET;
    }

    private static boolean isStretch(int first, int last, int end) {
        return first >= 0 && first <= last && last < end;
    }

    private int changeStretch(int line, int firstWhat, int first, int lastWhat, int last) {
        int had = lines.property(line, lastWhat) - lines.property(line, firstWhat) + 1;
        history.save(lines);
        lines.change(line, firstWhat, first);
        lines.change(line, lastWhat, last);
        return had;
    }

    /** The lines and the present moment: all that undo brings back. */
    private static final class Lines {
        static final int LENGTH_SAVED = MOST_LINES * PROPERTIES + 2;

        private final int[] table = new int[MOST_LINES * PROPERTIES];
        private int size = 0;
        private int moment = 0;
        // Counts the changes, so that what is worked out from the lines is worked out again only after one.
        private int version = 0;

        int size() {
            return size;
        }

        int moment() {
            return moment;
        }

        int version() {
            return version;
        }

        boolean has(int line) {
            return line >= 0 && line < size;
        }

        int property(int line, int what) {
            if (line < 0 || line >= size || what < 0 || what >= PROPERTIES) {
                return NONE;
            }
            return table[line * PROPERTIES + what];
        }

        void change(int line, int what, int number) {
            if (has(line) && what >= 0 && what < PROPERTIES) {
                table[line * PROPERTIES + what] = number;
                version++;
            }
        }

        void addLine(int slope, int offset, int firstMoment, int lastMoment) {
            if (size >= MOST_LINES) {
                return;
            }
            int line = size;
            size++;
            change(line, SLOPE, slope);
            change(line, OFFSET, offset);
            change(line, FIRST_PLACE, 0);
            change(line, LAST_PLACE, PLACES - 1);
            change(line, FIRST_MOMENT, firstMoment);
            change(line, LAST_MOMENT, lastMoment);
        }

        void drop(int line) {
            if (!has(line)) {
                return;
            }
            int from = (line + 1) * PROPERTIES;
            System.arraycopy(table, from, table, line * PROPERTIES, size * PROPERTIES - from);
            size--;
            version++;
        }

        void moveTo(int newMoment) {
            moment = newMoment;
            version++;
        }

        void saveTo(int[] states, int at) {
            if (at < 0 || at > states.length - LENGTH_SAVED) {
                return;
            }
            states[at] = moment;
            states[at + 1] = size;
            System.arraycopy(table, 0, states, at + 2, table.length);
        }

        void restoreFrom(int[] states, int at) {
            if (at < 0 || at > states.length - LENGTH_SAVED) {
                return;
            }
            moment = states[at];
            size = states[at + 1];
            System.arraycopy(states, at + 2, table, 0, table.length);
            version++;
        }

        /** The line's value there, or the one that it would have if the place is not in its span. */
        int valueAt(int line, int place) {
            if (line < 0 || line >= size) {
                return 0;
            }
            return table[line * PROPERTIES + SLOPE] * place + table[line * PROPERTIES + OFFSET];
        }

        boolean spans(int line, int place) {
            return property(line, FIRST_PLACE) <= place && place <= property(line, LAST_PLACE);
        }

        boolean lives(int line, int moment) {
            return property(line, FIRST_MOMENT) <= moment && moment <= property(line, LAST_MOMENT);
        }

        boolean counts(int line, int place, int moment) {
            if (line < 0 || line >= size) {
                return false;
            }
            int at = line * PROPERTIES;
            return table[at + FIRST_PLACE] <= place && place <= table[at + LAST_PLACE]
                    && table[at + FIRST_MOMENT] <= moment && moment <= table[at + LAST_MOMENT];
        }

        int living() {
            int living = 0;
            for (int line = 0; line < size; line++) {
                if (lives(line, moment)) {
                    living++;
                }
            }
            return living;
        }

        /** Whether other lines live at the moment than at the one before it. */
        boolean livesChangeAt(int moment) {
            for (int line = 0; line < size; line++) {
                if (lives(line, moment) != lives(line, moment - 1)) {
                    return true;
                }
            }
            return false;
        }

        boolean isLower(int one, int other, int place) {
            int difference = valueAt(one, place) - valueAt(other, place);
            return difference < 0 || difference == 0 && one < other;
        }

        /** How many lines that count at the place, at the present moment, are lower than this one. */
        int rankOf(int line, int place) {
            int rank = 0;
            for (int other = 0; other < size; other++) {
                if (counts(other, place, moment) && isLower(other, line, place)) {
                    rank++;
                }
            }
            return rank;
        }

        /** The lowest line, as if the one that is left out were not there. */
        int lowestBut(int leftOut, int place, int moment) {
            int lowest = NONE;
            int least = 0;
            for (int line = 0; line < size; line++) {
                if (line != leftOut && counts(line, place, moment)) {
                    int value = valueAt(line, place);
                    if (lowest == NONE || value < least) {
                        lowest = line;
                        least = value;
                    }
                }
            }
            return lowest;
        }
    }

    /** The saved states, the oldest one first. */
    private static final class History {
        private final int[] states = new int[MOST_SAVED * Lines.LENGTH_SAVED];
        private int size = 0;

        int size() {
            return size;
        }

        void save(Lines lines) {
            if (size >= MOST_SAVED) {
                System.arraycopy(states, Lines.LENGTH_SAVED, states, 0, states.length - Lines.LENGTH_SAVED);
                size = MOST_SAVED - 1;
            }
            lines.saveTo(states, size * Lines.LENGTH_SAVED);
            size++;
        }

        void restore(Lines lines) {
            if (size > 0) {
                size--;
                lines.restoreFrom(states, size * Lines.LENGTH_SAVED);
            }
        }
    }

    /** Which line is lowest at each place at the present moment, and the rows that this makes. */
    private static final class Present {
        private final Lines lines;
        private final int[] lowest = new int[PLACES];
        // Where each row starts, and behind the last one the end of all places.
        private final int[] starts = new int[PLACES + 1];
        private int rows = 0;
        private int version = NONE;

        Present(Lines lines) {
            this.lines = lines;
        }

        int lineAt(int place) {
            renew();
            return place < 0 || place >= PLACES ? NONE : lowest[place];
        }

        /** At how many places the line is lowest; with NONE, how many places are without a line. */
        int placesOf(int line) {
            renew();
            int places = 0;
            for (int place = 0; place < PLACES; place++) {
                if (lowest[place] == line) {
                    places++;
                }
            }
            return places;
        }

        int rowCount() {
            renew();
            return rows;
        }

        int rowStart(int row) {
            renew();
            return row < 0 || row > rows ? NONE : starts[row];
        }

        private void renew() {
            if (version == lines.version()) {
                return;
            }
            version = lines.version();
            rows = 0;
            for (int place = 0; place < PLACES; place++) {
                lowest[place] = lines.lowestBut(NONE, place, lines.moment());
                if (place == 0 || lowest[place] != lowest[place - 1]) {
                    starts[rows] = place;
                    rows++;
                }
            }
            starts[rows] = PLACES;
        }
    }

    /** The tree over the places, made for the present moment. */
    private static final class Tree {
        private final Lines lines;
        private final int[] firstPlaces = new int[NODES + 1];
        private final int[] lastPlaces = new int[NODES + 1];
        private final int[] kept = new int[NODES + 1];
        private final int[] steps = new int[NODES + 1];
        private int version = NONE;

        Tree(Lines lines) {
            this.lines = lines;
            lastPlaces[1] = PLACES - 1;
            for (int node = 1; 2 * node < NODES; node++) {
                int middle = (firstPlaces[node] + lastPlaces[node]) / 2;
                firstPlaces[2 * node] = firstPlaces[node];
                lastPlaces[2 * node] = middle;
                firstPlaces[2 * node + 1] = middle + 1;
                lastPlaces[2 * node + 1] = lastPlaces[node];
            }
        }

        int firstPlace(int node) {
            return has(node) ? firstPlaces[node] : NONE;
        }

        int lastPlace(int node) {
            return has(node) ? lastPlaces[node] : NONE;
        }

        int middle(int node) {
            return has(node) ? (firstPlaces[node] + lastPlaces[node]) / 2 : NONE;
        }

        int lineOf(int node) {
            renew();
            return has(node) ? kept[node] : NONE;
        }

        int stepsAt(int node) {
            renew();
            return has(node) ? steps[node] : NONE;
        }

        /** How many nodes keep the line; with NONE, how many keep none. */
        int nodesOf(int line) {
            renew();
            int nodes = 0;
            for (int node = 1; node <= NODES; node++) {
                if (kept[node] == line) {
                    nodes++;
                }
            }
            return nodes;
        }

        int allSteps() {
            renew();
            int all = 0;
            for (int node = 1; node <= NODES; node++) {
                all += steps[node];
            }
            return all;
        }

        private static boolean has(int node) {
            return node >= 1 && node <= NODES;
        }

        private void renew() {
            if (version == lines.version()) {
                return;
            }
            version = lines.version();
            Arrays.fill(kept, NONE);
            Arrays.fill(steps, 0);
            for (int line = 0; line < lines.size(); line++) {
                if (lines.lives(line, lines.moment())) {
                    put(line, 1);
                }
            }
        }

        /** Calls itself on children alone, and so goes no deeper than the tree's seven levels. */
        private void put(int line, int node) {
            if (node < 1 || node > NODES) {
                return;
            }
            int first = firstPlaces[node];
            int last = lastPlaces[node];
            int spanFirst = lines.property(line, FIRST_PLACE);
            int spanLast = lines.property(line, LAST_PLACE);
            if (spanLast < first || spanFirst > last) {
                return;
            }
            if (spanFirst > first || spanLast < last) {
                put(line, 2 * node);
                put(line, 2 * node + 1);
                return;
            }
            steps[node]++;
            if (kept[node] == NONE) {
                kept[node] = line;
                return;
            }
            int goesOn = line;
            if (lines.isLower(line, kept[node], (first + last) / 2)) {
                goesOn = kept[node];
                kept[node] = line;
            }
            if (first == last) {
                return;
            }
            if (lines.isLower(goesOn, kept[node], first)) {
                put(goesOn, 2 * node);
            } else if (lines.isLower(goesOn, kept[node], last)) {
                put(goesOn, 2 * node + 1);
            }
        }
    }

    /** The first moment at which each line is lowest at some place. */
    private static final class Reigns {
        private final Lines lines;
        private final int[] firstMoments = new int[MOST_LINES];
        private int version = NONE;

        Reigns(Lines lines) {
            this.lines = lines;
        }

        int firstMoment(int line) {
            renew();
            return line < 0 || line >= MOST_LINES ? NONE : firstMoments[line];
        }

        /** The lines that are never lowest: a bit for each of them, that of the line 0 the least one. */
        int neverLowest() {
            renew();
            int never = 0;
            for (int line = 0; line < lines.size() && line < MOST_LINES; line++) {
                if (firstMoments[line] == NONE) {
                    never |= 1 << line;
                }
            }
            return never;
        }

        private void renew() {
            if (version == lines.version()) {
                return;
            }
            version = lines.version();
            Arrays.fill(firstMoments, NONE);
            for (int moment = 0; moment < MOMENTS; moment++) {
                // While the same lines live, the same ones are lowest.
                if (lines.livesChangeAt(moment)) {
                    note(moment);
                }
            }
        }

        private void note(int moment) {
            for (int place = 0; place < PLACES; place++) {
                int lowest = lines.lowestBut(NONE, place, moment);
                if (lowest >= 0 && lowest < MOST_LINES && firstMoments[lowest] == NONE) {
                    firstMoments[lowest] = moment;
                }
            }
        }
    }

    /** The buffer, and what it says. */
    private static final class Text {
        private final int[] codes = new int[MOST_CHARACTERS];
        private final Reader reader = new Reader();
        private int length = 0;

        int length() {
            return length;
        }

        int codeAt(int index) {
            return index < 0 || index >= length ? NONE : codes[index];
        }

        void push(int code) {
            if (length < MOST_CHARACTERS) {
                codes[length] = code;
                length++;
            }
        }

        void empty() {
            length = 0;
        }

        int errorIndex() {
            reader.start();
            for (int index = 0; index < length; index++) {
                if (!reader.takes(codes[index])) {
                    return index;
                }
            }
            return length;
        }

        boolean isWhole() {
            return errorIndex() == length && reader.hasWholeLine();
        }

        /** How many lines a whole text has. */
        int lineCount() {
            int count = 1;
            for (int index = 0; index < length; index++) {
                if (codes[index] == ';') {
                    count++;
                }
            }
            return count;
        }

        /** Appends the lines of a whole text. */
        void writeTo(Lines lines) {
            reader.start();
            for (int index = 0; index < length; index++) {
                if (codes[index] == ';') {
                    reader.writeTo(lines);
                }
                reader.takes(codes[index]);
            }
            reader.writeTo(lines);
        }
    }

    /** Reads lines as a text, character by character. */
    private static final class Reader {
        private static final int AT_START = 0;
        private static final int BEHIND_MINUS = 1;
        private static final int IN_SLOPE = 2;
        private static final int BEHIND_X = 3;
        private static final int BEHIND_SIGN = 4;
        private static final int IN_OFFSET = 5;
        private static final int BEHIND_AT = 6;
        private static final int IN_FIRST = 7;
        private static final int BEHIND_DASH = 8;
        private static final int IN_LAST = 9;

        private int stage = AT_START;
        // The number that is being read, and whether it has a "-" ahead of it.
        private int number = 0;
        private boolean negative = false;
        // What has been read of the line before that number.
        private int slope = 0;
        private int offset = 0;
        private int firstMoment = 0;

        void start() {
            stage = AT_START;
            negative = false;
        }

        /** Whether the line so far is a whole one. */
        boolean hasWholeLine() {
            return stage == IN_OFFSET || stage == IN_LAST && number >= firstMoment;
        }

        void writeTo(Lines lines) {
            if (stage == IN_OFFSET) {
                lines.addLine(slope, signedNumber(), 0, MOMENTS - 1);
            } else if (stage == IN_LAST) {
                lines.addLine(slope, offset, firstMoment, number);
            }
        }

        /** Takes the next character; false if it is a syntax error. */
        boolean takes(int code) {
            switch (stage) {
                case AT_START:
                    return code == '-' ? goesNegative(BEHIND_MINUS) : startsNumber(code, IN_SLOPE);
                case BEHIND_MINUS:
                    return startsNumber(code, IN_SLOPE);
                case IN_SLOPE:
                    return code == 'x' ? endsSlope() : extendsNumber(code, MOST_SLOPE);
                case BEHIND_X:
                    return takesSign(code);
                case BEHIND_SIGN:
                    return startsNumber(code, IN_OFFSET);
                case IN_OFFSET:
                    return takesInOffset(code);
                case BEHIND_AT:
                    return startsNumber(code, IN_FIRST);
                case IN_FIRST:
                    return code == '-' ? endsFirstMoment() : extendsNumber(code, MOMENTS - 1);
                case BEHIND_DASH:
                    return startsNumber(code, IN_LAST) && mayBecomeLast();
                default:
                    return takesInLast(code);
            }
        }

        private boolean takesSign(int code) {
            if (code == '-') {
                return goesNegative(BEHIND_SIGN);
            }
            return code == '+' && entered(BEHIND_SIGN);
        }

        private boolean takesInOffset(int code) {
            if (code == ';') {
                return endsLine();
            }
            if (code == '@') {
                offset = signedNumber();
                return entered(BEHIND_AT);
            }
            return extendsNumber(code, MOST_OFFSET);
        }

        private boolean takesInLast(int code) {
            if (code == ';') {
                return hasWholeLine() && endsLine();
            }
            return extendsNumber(code, MOMENTS - 1) && mayBecomeLast();
        }

        private boolean endsSlope() {
            slope = signedNumber();
            negative = false;
            return entered(BEHIND_X);
        }

        private boolean endsFirstMoment() {
            firstMoment = number;
            return entered(BEHIND_DASH);
        }

        private boolean endsLine() {
            start();
            return true;
        }

        private boolean goesNegative(int next) {
            negative = true;
            return entered(next);
        }

        private boolean entered(int next) {
            stage = next;
            return true;
        }

        private boolean startsNumber(int code, int next) {
            if (!isDigit(code)) {
                return false;
            }
            number = code - '0';
            return entered(next);
        }

        private boolean extendsNumber(int code, int most) {
            if (!isDigit(code) || number == 0 || number * 10 + code - '0' > most) {
                return false;
            }
            number = number * 10 + code - '0';
            return true;
        }

        /** Whether the number, or one that begins with it, is a moment that is not less than the first one. */
        private boolean mayBecomeLast() {
            return number >= firstMoment || number > 0 && number < 10 && number * 10 + 9 >= firstMoment;
        }

        private int signedNumber() {
            return negative ? -number : number;
        }

        private static boolean isDigit(int code) {
            return code >= '0' && code <= '9';
        }
    }
}
