/** The digest of promise 29, from the answers of the other calls. */
final class PlainDigest {
    private long hash = 2591;

    private PlainDigest() {
    }

    static long of(LineLives x, String buffer) {
        PlainDigest digest = new PlainDigest();
        for (int what = 0; what <= 8; what++) {
            digest.take(x.count(what));
        }
        for (int line = 0; line < x.count(1); line++) {
            for (int what = 0; what <= 8; what++) {
                digest.take(x.line(line, what));
            }
            digest.take(x.worth(line));
            if (line > 0) {
                digest.take(x.meet(line, 0));
            }
        }
        for (int node = 1; node <= 127; node++) {
            if (x.node(node, 0) != LineLives.NONE) {
                digest.take(node);
                for (int what = 0; what <= 4; what++) {
                    digest.take(x.node(node, what));
                }
            }
        }
        for (int row = 0; row < x.count(3); row++) {
            for (int what = 0; what <= 2; what++) {
                digest.take(x.row(row, what));
            }
        }
        digest.take(x.sum(0, 63));
        for (int place : new int[] {0, 21, 42, 63}) {
            digest.take(x.lowest(place, 50));
            digest.take(x.ranked(place, 1));
            digest.take(x.changesAt(place));
        }
        digest.take(x.ifAdded(0, 0));
        digest.take(x.highest(1));
        digest.take(Double.doubleToLongBits(x.mean()));
        digest.take(buffer.length());
        for (int i = 0; i < buffer.length(); i++) {
            digest.take(buffer.charAt(i));
        }
        return digest.hash;
    }

    private void take(long value) {
        hash = 31 * hash + value;
    }
}
