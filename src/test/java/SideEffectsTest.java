/**
 * What a call does not change. An object holds five things: its formula with its decisions, its
 * remembered states, two slots and its text. Each is read after a call, from an object made anew for
 * it, and compared with what it is without the call.
 */
public final class SideEffectsTest {
    private static final int STATE = 1, REMEMBERED = 2, SLOT_0 = 4, SLOT_1 = 8, TEXT = 16;
    private static final int SLOTS = SLOT_0 | SLOT_1, ALL = STATE | REMEMBERED | SLOTS | TEXT;
    private static final String[] NAMES = {"the state", "the remembered states", "slot 0", "slot 1", "the text"};
    private static final Check CHECK = new Check();

    interface Maker {
        CnfXorSolver make();
    }

    interface Call {
        long on(CnfXorSolver x);
    }

    public static void main(String[] args) {
        for (Maker maker : new Maker[] {SideEffectsTest::open, SideEffectsTest::conflicting, SideEffectsTest::full}) {
            questions(maker);
            changes(maker);
        }
        CHECK.due("learn() can be tried", conflicting().learn(), 0);
        CHECK.due("resolve(0, 1, 0) can be tried", open().resolve(0, 1, 0), 5);
        CHECK.due("sum(2, 3) can be tried", open().sum(2, 3), 5);
        CHECK.end();
    }

    // ---- objects in which everything is there to be changed; the actions come last, to be still remembered

    private static CnfXorSolver open() {
        CnfXorSolver x = Calls.loaded("ab;Ab;=1cd;=0ch;");
        x.addClause(64, 32);
        x.save(1);
        x.decide(13);
        x.save(0);
        x.clearText();
        Calls.type(x, "=1ef;gH;");
        x.decide(5);
        return x;
    }

    private static CnfXorSolver conflicting() {
        CnfXorSolver x = Calls.loaded("ab;aB;=1ac;");
        x.save(1);
        x.addParity(48, 1);
        x.decide(9);
        x.save(0);
        x.backtrack(0);
        x.append('H');
        x.decide(1);
        return x;
    }

    /** Fourteen remembered states, 24 constraints, 90 characters. */
    private static CnfXorSolver full() {
        CnfXorSolver x = Calls.loaded("AB;Ab;=1gh;=0fgh;" + "ef;".repeat(4));
        x.clearText();
        Calls.type(x, "abcd;".repeat(17) + "eFgH;");
        x.save(0);
        for (int i = 0; i < 16; i++) {
            x.addClause(i, 16);
        }
        x.decide(0);
        x.save(1);
        return x;
    }

    // ---- the calls

    private static void questions(Maker maker) {
        leaves(ALL, maker, "errorPosition()", x -> x.errorPosition());
        leaves(ALL, maker, "constraintCount()", x -> x.constraintCount());
        leaves(ALL, maker, "isParity(2)", x -> x.isParity(2) ? 1 : 0);
        leaves(ALL, maker, "variables(1)", x -> x.variables(1));
        leaves(ALL, maker, "negated(1)", x -> x.negated(1));
        leaves(ALL, maker, "level()", x -> x.level());
        leaves(ALL, maker, "value(0)", x -> x.value(0));
        leaves(ALL, maker, "trailLiteral(0)", x -> x.trailLiteral(0));
        leaves(ALL, maker, "reason(0)", x -> x.reason(0));
        leaves(ALL, maker, "conflict()", x -> x.conflict());
        leaves(ALL, maker, "learnedClause()", x -> x.learnedClause());
        leaves(ALL, maker, "modelCount()", x -> x.modelCount());
        leaves(ALL, maker, "model(3)", x -> x.model(3));
        leaves(ALL, maker, "impliesClause(2, 1)", x -> x.impliesClause(2, 1) ? 1 : 0);
        leaves(ALL, maker, "impliesParity(12, 1)", x -> x.impliesParity(12, 1) ? 1 : 0);
        leaves(ALL, maker, "core()", x -> x.core());
        leaves(ALL, maker, "rank()", x -> x.rank());
        leaves(ALL, maker, "isConsistent()", x -> x.isConsistent() ? 1 : 0);
        leaves(ALL, maker, "eliminatedRow(0)", x -> x.eliminatedRow(0));
        leaves(ALL, maker, "solve()", x -> x.solve());
    }

    private static void changes(Maker maker) {
        leaves(ALL - TEXT, maker, "append(97)", x -> x.append(97));
        leaves(ALL - TEXT, maker, "clearText()", x -> x.clearText());
        leaves(TEXT, maker, "load()", x -> x.load());
        leaves(SLOTS | TEXT, maker, "addClause(2, 1)", x -> x.addClause(2, 1));
        leaves(SLOTS | TEXT, maker, "addClause(0, 0)", x -> x.addClause(0, 0));
        leaves(SLOTS | TEXT, maker, "addParity(3, 1)", x -> x.addParity(3, 1));
        leaves(SLOTS | TEXT, maker, "removeConstraint(0)", x -> x.removeConstraint(0));
        leaves(SLOTS | TEXT, maker, "resolve(0, 1, 0)", x -> x.resolve(0, 1, 0));
        leaves(SLOTS | TEXT, maker, "sum(2, 3)", x -> x.sum(2, 3));
        leaves(SLOTS | TEXT, maker, "decide(15)", x -> x.decide(15));
        leaves(SLOTS | TEXT, maker, "decide(8)", x -> x.decide(8));
        leaves(SLOTS | TEXT, maker, "backtrack(0)", x -> x.backtrack(0));
        leaves(SLOTS | TEXT | STATE, maker, "backtrack to the present level", x -> x.backtrack(x.level()));
        leaves(SLOTS | TEXT, maker, "learn()", x -> x.learn());
        leaves(SLOTS | TEXT, maker, "undo()", x -> x.undo());
        leaves(ALL - SLOT_0, maker, "save(0)", x -> x.save(0));
        leaves(ALL - SLOT_1, maker, "save(1)", x -> x.save(1));
        leaves(SLOTS | TEXT, maker, "restore(0)", x -> x.restore(0));
        leaves(SLOTS | TEXT, maker, "restore(1)", x -> x.restore(1));
    }

    // ---- what is left

    /** A call that throws leaves everything. */
    private static void leaves(int left, Maker maker, String name, Call call) {
        boolean thrown = Check.outcome(() -> call.on(maker.make())).endsWith("Exception");
        for (int k = 0; k < NAMES.length; k++) {
            if (thrown || (left >> k & 1) == 1) {
                CnfXorSolver x = maker.make();
                Check.outcome(() -> call.on(x));
                CHECK.due(NAMES[k] + " after " + name, read(x, 1 << k), read(maker.make(), 1 << k));
            }
        }
    }

    private static String read(CnfXorSolver x, int part) {
        switch (part) {
            case STATE:
                return state(x);
            case REMEMBERED:
                return remembered(x);
            case SLOT_0:
                return Check.outcome(() -> x.restore(0)) + state(x);
            case SLOT_1:
                return Check.outcome(() -> x.restore(1)) + state(x);
            default:
                return text(x);
        }
    }

    /** What is seen, but for the error position that comes first. */
    private static String state(CnfXorSolver x) {
        String seen = Calls.seen(x);
        return seen.substring(seen.indexOf(' '));
    }

    private static String remembered(CnfXorSolver x) {
        StringBuilder s = new StringBuilder();
        for (int i = 0; i < 15; i++) {
            s.append(Check.outcome(() -> x.undo())).append(" of ").append(x.constraintCount());
            s.append(" last ").append(Check.outcome(() -> x.variables(x.constraintCount() - 1)));
            s.append(" level ").append(x.level()).append("; ");
        }
        return s.toString();
    }

    /** An incomplete text is ended first, so that what stands in it can be loaded. */
    private static String text(CnfXorSolver x) {
        StringBuilder s = new StringBuilder();
        s.append(x.errorPosition());
        if (x.errorPosition() != CnfXorSolver.NONE) {
            x.append(';');
        }
        s.append(" load ").append(x.load());
        for (int i = 0; i < x.constraintCount(); i++) {
            s.append(' ').append(x.variables(i)).append('/').append(x.negated(i));
        }
        return s.append(" length ").append(x.clearText()).toString();
    }
}
