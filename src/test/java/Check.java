/** Compares answers with those that are due, prints the wrong ones, and ends the test. */
final class Check {
    interface Call {
        long answer();
    }

    static final String NOTHING = "nothing";
    static final String INDEX = "IndexOutOfBoundsException";
    static final String UNSUPPORTED = "UnsupportedOperationException";

    private final String test;
    private int calls;
    private int wrong;

    Check(String test) {
        this.test = test;
    }

    void due(String call, long got, long want) {
        calls++;
        if (got != want) {
            wrong++;
            System.out.println(test + ": " + call + " answered " + got + ", due is " + want);
        }
    }

    void yes(String call, boolean got) {
        due(call, got ? 1 : 0, 1);
    }

    void no(String call, boolean got) {
        due(call, got ? 1 : 0, 0);
    }

    void throwsIndex(String call, Call made) {
        dueThrow(call, made, INDEX);
    }

    void throwsUnsupported(String call, Call made) {
        dueThrow(call, made, UNSUPPORTED);
    }

    /** The simple name of exactly what the call throws, so that a subclass counts as wrong. */
    static String thrownBy(Call made) {
        try {
            made.answer();
            return NOTHING;
        } catch (RuntimeException e) {
            return e.getClass().getSimpleName();
        }
    }

    private void dueThrow(String call, Call made, String want) {
        calls++;
        String got = thrownBy(made);
        if (!got.equals(want)) {
            wrong++;
            System.out.println(test + ": " + call + " threw " + got + ", due is " + want);
        }
    }

    /** Asks for one field of every item of a page, in order. */
    void items(String what, ColumnDesk desk, int k, int field, int... want) {
        due(what + ": how many items", desk.about(k, 3), want.length);
        for (int i = 0; i < want.length && i < desk.about(k, 3); i++) {
            due(what + ": item(" + k + ", " + i + ", " + field + ")", desk.item(k, i, field), want[i]);
        }
    }

    void end() {
        System.out.println(test + ": " + calls + " answers, " + wrong + " wrong");
        if (wrong != 0 || calls == 0) {
            System.exit(1);
        }
    }
}
