/** Runs of calls that several tests need. */
final class Calls {
    private Calls() {
    }

    static void type(CnfXorSolver x, String text) {
        for (int i = 0; i < text.length(); i++) {
            x.append(text.charAt(i));
        }
    }

    static CnfXorSolver withText(String text) {
        CnfXorSolver x = new CnfXorSolver();
        type(x, text);
        return x;
    }

    static CnfXorSolver loaded(String text) {
        CnfXorSolver x = withText(text);
        x.load();
        return x;
    }

    static CnfXorSolver full() {
        CnfXorSolver x = new CnfXorSolver();
        for (int i = 0; i < 24; i++) {
            x.addClause(1, 2);
        }
        return x;
    }

    /** Everything that can be seen without changing anything. */
    static String seen(CnfXorSolver x) {
        StringBuilder s = new StringBuilder();
        s.append(x.errorPosition()).append(' ').append(x.constraintCount()).append(':');
        for (int i = 0; i < x.constraintCount(); i++) {
            s.append(x.isParity(i) ? " p" : " c").append(x.variables(i)).append('/').append(x.negated(i));
        }
        s.append(" level ").append(x.level()).append(" values");
        for (int v = 0; v < 8; v++) {
            s.append(' ').append(x.value(v)).append('/').append(x.reason(v));
        }
        s.append(" trail");
        for (int i = 0; i < 9; i++) {
            int at = i;
            s.append(' ').append(Check.outcome(() -> x.trailLiteral(at)));
        }
        s.append(" conflict ").append(x.conflict()).append(' ').append(Check.outcome(() -> x.learnedClause()));
        s.append(" models ").append(x.modelCount()).append(' ').append(x.model(0)).append(' ').append(x.core());
        s.append(" rows ").append(x.rank()).append(' ').append(x.isConsistent());
        for (int i = -1; i < 9; i++) {
            int at = i;
            s.append(' ').append(Check.outcome(() -> x.eliminatedRow(at)));
        }
        s.append(" solve ").append(x.solve());
        return s.toString();
    }

    /** What is seen, and what else an object holds: its remembered states, its slots, its text. Changes the object. */
    static String story(CnfXorSolver x) {
        StringBuilder s = new StringBuilder(seen(x));
        for (int i = 0; i < 15; i++) {
            s.append(" undo ").append(Check.outcome(() -> x.undo())).append(brief(x));
        }
        for (int slot = 0; slot < 2; slot++) {
            int at = slot;
            s.append(" restore ").append(Check.outcome(() -> x.restore(at))).append(brief(x));
        }
        return s.append(" text ").append(x.clearText()).toString();
    }

    private static String brief(CnfXorSolver x) {
        return "/" + x.constraintCount() + "/" + x.level() + "/" + Check.outcome(() -> x.variables(x.constraintCount() - 1));
    }
}
