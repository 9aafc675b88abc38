/** Counts the answers that are not the ones that are due. */
final class Check {
    interface Call {
        double answer();
    }

    private final String test;
    private int wrong = 0;

    Check(String test) {
        this.test = test;
    }

    void due(String call, double want, double got) {
        if (got != want) {
            report(call + " answered " + got + ", due is " + want);
        }
    }

    void dueText(String call, String want, String got) {
        if (!want.equals(got)) {
            report(call + " answered " + got + ", due is " + want);
        }
    }

    /** Also tells when the call changes something that can be looked at. */
    void dueThrow(String call, TideMills mills, Class<? extends RuntimeException> want, Call made) {
        String before = View.of(mills);
        String got = "nothing";
        try {
            made.answer();
        } catch (RuntimeException e) {
            got = e.getClass().getName();
        }
        dueText(call + " throws", want.getName(), got);
        if (!View.of(mills).equals(before)) {
            report(call + " threw and changed the state");
        }
    }

    void report(String text) {
        wrong++;
        if (wrong <= 20) {
            System.out.println(test + ": " + text);
        }
    }

    void end() {
        if (wrong > 0) {
            System.out.println(test + ": " + wrong + " wrong");
            System.exit(1);
        }
    }
}
