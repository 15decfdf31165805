/** Counts and prints every answer that is not the one that is due. */
final class Expect {
    interface Call {
        Object make();
    }

    private int wrong = 0;
    private int asked = 0;

    void equal(String what, Object due, Call call) {
        asked++;
        Object got = outcome(call);
        if (!due.equals(got)) {
            wrong++;
            System.out.println(what + " answered " + got + ", due is " + due);
        }
    }

    void fails(String what, Class<? extends RuntimeException> due, Call call) {
        equal(what, thrown(due), call);
    }

    void holds(String what, boolean condition) {
        equal(what, true, () -> condition);
    }

    /** Ends the program: with exit code 1 if an answer was wrong, or if none was asked for. */
    void finish() {
        System.out.println(asked + " answers, " + wrong + " wrong");
        System.exit(wrong == 0 && asked > 0 ? 0 : 1);
    }

    static Object outcome(Call call) {
        try {
            return call.make();
        } catch (RuntimeException e) {
            return thrown(e.getClass()) + (isByItself(e) ? ", not by a throw statement" : "");
        }
    }

    /** Whether the library has thrown: no call may throw but by a throw statement of its own. */
    private static boolean isByItself(RuntimeException e) {
        StackTraceElement[] frames = e.getStackTrace();
        return frames.length == 0 || frames[0].getClassName().startsWith("java.")
                || frames[0].getClassName().startsWith("jdk.");
    }

    private static String thrown(Class<? extends RuntimeException> kind) {
        return "throws." + kind.getSimpleName();
    }
}
