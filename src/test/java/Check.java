/** Compares answers with what is due, and ends the test with exit code 1 if one was not. */
final class Check {
    interface Call {
        long answer();
    }

    private static int wrong = 0;
    private static int told = 0;

    private Check() {
    }

    static void is(String call, long due, Call made) {
        told++;
        String got = answerOf(made);
        if (!got.equals(Long.toString(due))) {
            report(call, got, Long.toString(due));
        }
    }

    static void index(String call, Call made) {
        refused(call, "IndexOutOfBoundsException", made);
    }

    static void argument(String call, Call made) {
        refused(call, "IllegalArgumentException", made);
    }

    static void state(String call, Call made) {
        refused(call, "IllegalStateException", made);
    }

    static void same(String call, String got, String due) {
        told++;
        if (!got.equals(due)) {
            report(call, got, due);
        }
    }

    private static void refused(String call, String exception, Call made) {
        same(call, answerOf(made), "throws." + exception);
    }

    /** The answer, or the very class of what was thrown: a subclass is not what is due. */
    static String answerOf(Call made) {
        try {
            return Long.toString(made.answer());
        } catch (Throwable thrown) {
            String name = thrown.getClass().getName();
            return "throws." + (name.startsWith("java.lang.") ? name.substring(10) : name);
        }
    }

    private static void report(String call, String got, String due) {
        wrong++;
        if (wrong <= 20) {
            System.out.println(call + " answered " + got + ", due is " + due);
        }
    }

    static void end() {
        System.out.println(told + " answers, " + wrong + " not as due");
        System.exit(wrong == 0 && told > 0 ? 0 : 1);
    }
}
