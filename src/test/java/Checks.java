import java.util.Objects;

/** Counts the answers of a test that are not the ones that are due. */
final class Checks {
    private static int wrong = 0;

    private Checks() {
    }

    /** A call that may throw. */
    interface Call {
        void run();
    }

    static void same(String what, Object got, Object due) {
        if (!Objects.equals(got, due)) {
            wrong++;
            System.out.println(what + ": got " + got + ", due is " + due);
        }
    }

    static void same(String what, long got, long due) {
        same(what, Long.valueOf(got), Long.valueOf(due));
    }

    /** The call throws just this exception, and the object answers as before it. */
    static void refused(String what, LineLives lives, Class<?> due, Call call) {
        long before = lives.digest();
        same(what, thrownBy(call), due);
        same(what + ", digest after it", lives.digest(), before);
    }

    static Class<?> thrownBy(Call call) {
        try {
            call.run();
            return null;
        } catch (RuntimeException e) {
            return e.getClass();
        }
    }

    /** Ends the test: with the exit code 1 if an answer was wrong. */
    static void end() {
        if (wrong > 0) {
            System.out.println(wrong + " answers are not as due");
            System.exit(1);
        }
    }
}
