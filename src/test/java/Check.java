/** Compares answers with those that are due, prints the wrong ones, and ends a test. */
final class Check {
    interface Call {
        long answer();
    }

    private final String about;
    private int calls = 0;
    private int wrong = 0;

    Check(String about) {
        this.about = about;
    }

    void due(String call, long got, long want) {
        calls++;
        if (got != want) {
            report(call, Long.toString(got), Long.toString(want));
        }
    }

    void due(String call, boolean got, boolean want) {
        due(call, got ? 1 : 0, want ? 1 : 0);
    }

    void due(String call, String got, String want) {
        calls++;
        if (!got.equals(want)) {
            report(call, got, want);
        }
    }

    void noIndex(String call, Call run) {
        due(call, told(run), "throws.IndexOutOfBoundsException");
    }

    void noArgument(String call, Call run) {
        due(call, told(run), "throws.IllegalArgumentException");
    }

    void noState(String call, Call run) {
        due(call, told(run), "throws.IllegalStateException");
    }

    /** What a call answers, as a text; an exception by its own class, so that a subclass is a wrong answer. */
    static String told(Call run) {
        try {
            return Long.toString(run.answer());
        } catch (RuntimeException e) {
            return "throws." + e.getClass().getSimpleName();
        }
    }

    private void report(String call, String got, String want) {
        wrong++;
        if (wrong <= 50) {
            System.out.println(about + ": " + call + " answered " + got + ", due is " + want);
        }
    }

    int wrong() {
        return wrong;
    }

    void end() {
        System.out.println(about + ": " + calls + " answers looked at, " + wrong + " wrong");
        if (wrong > 0 || calls == 0) {
            System.exit(1);
        }
    }
}
