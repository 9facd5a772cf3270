/** Compares answers with those that are due, prints each wrong one, and ends a test. */
final class Checks {
    static final Class<IllegalArgumentException> ARGUMENT = IllegalArgumentException.class;
    static final Class<IllegalStateException> STATE = IllegalStateException.class;
    static final Class<IndexOutOfBoundsException> INDEX = IndexOutOfBoundsException.class;
    static final String NOTHING_THROWN = "nothing thrown";
    /** Of each sentence, so that one with many wrong answers does not hide the others. */
    private static final int MOST_REPORTED = 20;

    interface Call {
        void make();
    }

    private final String test;
    private String sentence = "";
    private int sentences;
    private int made;
    private int wrong;
    private int reported;

    Checks(String test) {
        this.test = test;
    }

    /** The test of one sentence; an exception out of it, or a test that compares nothing, is wrong too. */
    void sentence(String words, Call checks) {
        sentences++;
        sentence = " [" + words + "]";
        reported = 0;
        int before = made;
        dueText("the test ended with", thrownBy(checks), NOTHING_THROWN);
        if (made == before + 1) {
            report("the test compares nothing");
        }
        sentence = "";
    }

    void due(String call, long got, long want) {
        made++;
        if (got != want) {
            report(call + " answered " + got + ", due is " + want);
        }
    }

    void due(String call, boolean got, boolean want) {
        due(call, got ? 1 : 0, want ? 1 : 0);
    }

    void dueText(String call, String got, String want) {
        made++;
        if (!got.equals(want)) {
            report(call + " answered " + got + ", due is " + want);
        }
    }

    /** The exact class is asked for: a subclass would be an exception that the call threw by itself. */
    void dueThrow(String call, Class<? extends RuntimeException> want, Call made) {
        dueText(call, thrownBy(made), want.getSimpleName());
    }

    static String thrownBy(Call call) {
        try {
            call.make();
            return NOTHING_THROWN;
        } catch (RuntimeException e) {
            return e.getClass().getSimpleName();
        }
    }

    private void report(String text) {
        wrong++;
        reported++;
        if (reported <= MOST_REPORTED) {
            System.out.println(test + sentence + ": " + text);
        }
    }

    void end() {
        String counted = sentences == 0 ? "" : sentences + " sentences, ";
        System.out.println(test + ": " + counted + made + " answers, " + wrong + " wrong");
        if (made == 0 || wrong != 0) {
            System.exit(1);
        }
    }
}
