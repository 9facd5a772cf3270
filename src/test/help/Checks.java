/** Compares answers with those that are due, prints each wrong one, and ends a test. */
final class Checks {
    interface Call {
        void make();
    }

    private final String test;
    private int made;
    private int wrong;

    Checks(String test) {
        this.test = test;
    }

    void due(String call, long got, long want) {
        made++;
        if (got != want) {
            report(call + " answered " + got + ", due is " + want);
        }
    }

    void due(String call, boolean got, boolean want) {
        due(call, got ? 1 : 0, want ? 1 : 0);
    }

    void dueText(String call, String got, String want) {
        made++;
        if (!got.equals(want)) {
            report(call + " answered " + got + ", due is " + want);
        }
    }

    /** The exact class is asked for: a subclass would be an exception that the call threw by itself. */
    void dueThrow(String call, Class<? extends RuntimeException> want, Call made) {
        dueText(call, thrownBy(made), want.getSimpleName());
    }

    static String thrownBy(Call call) {
        try {
            call.make();
            return "nothing thrown";
        } catch (RuntimeException e) {
            return e.getClass().getSimpleName();
        }
    }

    private void report(String text) {
        wrong++;
        if (wrong <= 50) {
            System.out.println(test + ": " + text);
        }
    }

    void end() {
        System.out.println(test + ": " + made + " answers, " + wrong + " wrong");
        if (made == 0 || wrong != 0) {
            System.exit(1);
        }
    }
}
