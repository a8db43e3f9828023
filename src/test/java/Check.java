/** Counts the answers that are not the ones that are due. */
final class Check {
    interface Call {
        long run();
    }

    private final String place;
    private int made = 0;
    private int wrong = 0;

    Check() {
        this("");
    }

    /** The place stands before each line that is told. */
    Check(String place) {
        this.place = place;
    }

    void due(String call, long got, long want) {
        made++;
        if (got != want) {
            tell(call + " answered " + got + ", due is " + want);
        }
    }

    void due(String call, boolean got, boolean want) {
        made++;
        if (got != want) {
            tell(call + " answered " + got + ", due is " + want);
        }
    }

    void due(String call, String got, String want) {
        made++;
        if (!got.equals(want)) {
            tell(call + " answered " + got + ", due is " + want);
        }
    }

    void isBadIndex(String call, Call made) {
        due(call, outcome(made), "IndexOutOfBoundsException");
    }

    void isBadArgument(String call, Call made) {
        due(call, outcome(made), "IllegalArgumentException");
    }

    void isBadState(String call, Call made) {
        due(call, outcome(made), "IllegalStateException");
    }

    /** The answer as a text, or the name of the exception's very class. */
    static String outcome(Call made) {
        try {
            return Long.toString(made.run());
        } catch (RuntimeException e) {
            return e.getClass().getSimpleName();
        }
    }

    private void tell(String line) {
        wrong++;
        if (wrong <= 40) {
            System.out.println(place + line);
        }
    }

    int made() {
        return made;
    }

    int wrong() {
        return wrong;
    }

    void end() {
        System.out.println(wrong == 0 ? "all answers are as due" : wrong + " answers are not as due");
        if (wrong != 0) {
            System.exit(1);
        }
    }
}
