/** Counts checks, prints each that fails, and ends a test's run with the exit code that is due. */
final class Checks {
    interface Call {
        int answer();
    }

    private final String test;
    private int passed;
    private int failed;

    Checks(String test) {
        this.test = test;
    }

    void answers(String what, int due, Call call) {
        check(what, told(call), String.valueOf(due));
    }

    void refuses(String what, Class<? extends RuntimeException> due, Call call) {
        check(what, told(call), "throws." + due.getSimpleName());
    }

    void check(String what, String got, String due) {
        if (got.equals(due)) {
            passed++;
        } else {
            failed++;
            System.out.println(test + ": " + what + " answered " + got + ", due is " + due);
        }
    }

    /** What a call did: its answer, or the exception's name behind throws. */
    static String told(Call call) {
        try {
            return String.valueOf(call.answer());
        } catch (RuntimeException e) {
            return nameOf(e);
        }
    }

    static String nameOf(RuntimeException e) {
        return "throws." + e.getClass().getSimpleName();
    }

    void finish() {
        System.out.println(test + ": " + passed + " checks hold, " + failed + " do not");
        if (failed != 0 || passed == 0) {
            System.exit(1);
        }
    }
}
