/** Counts what holds and what does not, for tests that are plain main methods. */
final class Check {
    /** A call that may throw. */
    interface Call {
        Object make();
    }

    private int wrong = 0;
    private int held = 0;

    /** Compares with equals, but numbers of different integer types by their value. */
    void due(String what, Object got, Object want) {
        if (same(got, want)) {
            held++;
            return;
        }
        wrong++;
        System.out.println(what + " answered " + got + ", due is " + want);
    }

    private static boolean same(Object got, Object want) {
        if (got instanceof Integer && want instanceof Long) {
            return ((Integer) got).longValue() == (Long) want;
        }
        if (got instanceof Long && want instanceof Integer) {
            return (Long) got == ((Integer) want).longValue();
        }
        return got == null ? want == null : got.equals(want);
    }

    /** The class must be the very one, so that no subclass made by the machine counts. */
    void throwing(String what, Class<?> want, Call call) {
        due(what, answerOf(call), want.getSimpleName());
    }

    /** The answer of a call, or the name of what it throws. */
    static Object answerOf(Call call) {
        try {
            return call.make();
        } catch (RuntimeException e) {
            return e.getClass().getSimpleName();
        }
    }

    int wrong() {
        return wrong;
    }

    /** Ends the program with exit code 1 if anything was wrong, or nothing was checked. */
    void end(String name) {
        System.out.println(name + ": " + held + " answers as due, " + wrong + " not");
        if (wrong > 0 || held == 0) {
            System.exit(1);
        }
    }
}
