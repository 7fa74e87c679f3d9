import java.util.function.Supplier;

/** The digest of promise 29, from the answers of the other calls. */
final class PlainDigest {
    private final Supplier<LineLives> objects;
    private long hash = 2591;

    private PlainDigest(Supplier<LineLives> objects) {
        this.objects = objects;
    }

    static long of(LineLives x, String buffer) {
        return of(() -> x, buffer);
    }

    /** From like objects: so that none of them needs to answer more calls than the document promises. */
    static long of(Supplier<LineLives> objects, String buffer) {
        PlainDigest digest = new PlainDigest(objects);
        LineLives x = objects.get();
        for (int what = 0; what <= 8; what++) {
            digest.take(x.count(what));
        }
        int lines = x.count(1);
        int rows = x.count(3);
        for (int line = 0; line < lines; line++) {
            digest.takeLine(line);
        }
        for (int node = 1; node <= 127; node++) {
            digest.takeNode(node);
        }
        for (int row = 0; row < rows; row++) {
            digest.takeRow(row);
        }
        digest.takePlaces();
        digest.take(buffer.length());
        for (int i = 0; i < buffer.length(); i++) {
            digest.take(buffer.charAt(i));
        }
        return digest.hash;
    }

    private void takeLine(int line) {
        LineLives x = objects.get();
        for (int what = 0; what <= 8; what++) {
            take(x.line(line, what));
        }
        take(x.worth(line));
        if (line > 0) {
            take(x.meet(line, 0));
        }
    }

    private void takeNode(int node) {
        LineLives x = objects.get();
        if (x.node(node, 0) != LineLives.NONE) {
            take(node);
            for (int what = 0; what <= 4; what++) {
                take(x.node(node, what));
            }
        }
    }

    private void takeRow(int row) {
        LineLives x = objects.get();
        for (int what = 0; what <= 2; what++) {
            take(x.row(row, what));
        }
    }

    private void takePlaces() {
        LineLives x = objects.get();
        take(x.sum(0, 63));
        for (int place : new int[] {0, 21, 42, 63}) {
            take(x.lowest(place, 50));
            take(x.ranked(place, 1));
            take(x.changesAt(place));
        }
        take(x.ifAdded(0, 0));
        take(x.highest(1));
        take(Double.doubleToLongBits(x.mean()));
    }

    private void take(long value) {
        hash = 31 * hash + value;
    }
}
