import java.util.Objects;

/** Counts the answers of a test that are not the ones that are due. */
final class Checks {
    private static int wrong = 0;
    // What the answers are told to belong to.
    private static String test = "";

    private Checks() {
    }

    /** A call that may throw. */
    interface Call {
        void run();
    }

    static void same(String what, Object got, Object due) {
        if (!Objects.equals(got, due)) {
            wrong++;
            System.out.println(test + what + ": got " + got + ", due is " + due);
        }
    }

    static void same(String what, long got, long due) {
        same(what, Long.valueOf(got), Long.valueOf(due));
    }

    /** The call throws just this exception, and the object answers as before it. */
    static void refused(String what, LineLives lives, Class<?> due, Call call) {
        long before = lives.digest();
        same(what, thrownBy(call), due);
        same(what + ", digest after it", lives.digest(), before);
    }

    static Class<?> thrownBy(Call call) {
        try {
            call.run();
            return null;
        } catch (RuntimeException e) {
            return e.getClass();
        }
    }

    /** A test of its own: whatever it throws is a wrong answer of it, and the next test goes on. */
    static void test(String name, Call calls) {
        test = name + ": ";
        same("throws", thrownBy(calls), null);
        test = "";
    }

    /** Ends the test: with the exit code 1 if an answer was wrong. */
    static void end() {
        if (wrong > 0) {
            System.out.println(wrong + " answers are not as due");
            System.exit(1);
        }
    }
}
