import java.lang.management.ManagementFactory;

/** All calls of a run live in one room: what an object needs it makes with its constructor, and nothing after it. */
public final class RoomTest {
    private static final int CALLS = 512;

    private RoomTest() {
    }

    private static long allocated() {
        return ((com.sun.management.ThreadMXBean) ManagementFactory.getThreadMXBean())
                .getThreadAllocatedBytes(Thread.currentThread().getId());
    }

    public static void main(String[] args) {
        // Classes are loaded, and methods met for the first time, outside of what is counted.
        run(new LineLives());
        long before = allocated();
        LineLives lives = new LineLives();
        long made = allocated() - before;
        run(lives);
        long inCalls = allocated() - before - made;
        Checks.same("bytes of a new object are few: " + made, made < 40_000, true);
        Checks.same("bytes of " + CALLS + " calls are few: " + inCalls, inCalls < 10_000, true);
        Checks.end();
    }

    private static void run(LineLives lives) {
        int calls = 0;
        for (int line = 0; line < 20; line++) {
            lives.add(line - 10, 7 * line);
            lives.live(line, line, 50 + 2 * line);
            lives.span(line, line / 2, 63 - line);
            calls += 3;
        }
        while (calls + 9 <= CALLS) {
            lives.go(calls % 100);
            lives.lift(calls % 20, calls % 7 - 3);
            lives.append(33 + calls % 94);
            lives.firstError();
            lives.digest();
            lives.undo();
            lives.prune();
            lives.undo();
            lives.clearBuffer();
            calls += 9;
        }
    }
}
