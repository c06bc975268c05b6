/** Counts the answers of one test and ends it with exit code 1 if one was not as due. */
final class Check {
    interface Call {
        long answer();
    }

    static final String NOTHING = "nothing";
    static final String ARGUMENT = "IllegalArgumentException";
    static final String STATE = "IllegalStateException";

    private final String test;
    private int calls;
    private int wrong;

    Check(String test) {
        this.test = test;
    }

    void due(String what, long want, long got) {
        calls++;
        if (want != got) {
            tell(what + " answered " + got + ", due is " + want);
        }
    }

    void due(String what, boolean want, boolean got) {
        due(what, want ? 1L : 0L, got ? 1L : 0L);
    }

    void due(String what, String want, String got) {
        calls++;
        if (!want.equals(got)) {
            tell(what + " answered " + got + ", due is " + want);
        }
    }

    void refused(String what, String want, Call call) {
        due(what + " throws", want, thrownBy(call));
    }

    static String thrownBy(Call call) {
        try {
            call.answer();
            return NOTHING;
        } catch (RuntimeException e) {
            return e.getClass().getSimpleName();
        }
    }

    void end() {
        System.out.println(test + ": " + calls + " answers, " + wrong + " wrong");
        if (wrong != 0 || calls == 0) {
            System.exit(1);
        }
    }

    private void tell(String what) {
        wrong++;
        if (wrong <= 40) {
            System.out.println(test + ": " + what);
        }
    }
}
