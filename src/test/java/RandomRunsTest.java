/**
 * Long runs of calls, drawn by a fixed rule, whose answers are compared with those of Reference.
 * Four kinds of runs lean to small clauses, to parities, to full formulas and to texts.
 */
public final class RandomRunsTest {
    /** An object is promised 512 calls; one step makes less than 40. */
    private static final int RUNS = 4000, LAST_STEP = 472, KINDS = 5;
    private static final Check CHECK = new Check();

    private long seed;
    private int calls = 0;
    private final int kind;
    private final CnfXorSolver x = new CnfXorSolver();
    private final Reference r = new Reference();

    private RandomRunsTest(int run) {
        seed = run * 7919L + 17;
        kind = run % KINDS;
    }

    public static void main(String[] args) {
        for (int run = 0; run < RUNS; run++) {
            RandomRunsTest test = new RandomRunsTest(run);
            while (test.calls < LAST_STEP) {
                test.step("run " + run + " call " + test.calls + " ");
            }
        }
        CHECK.end();
    }

    private int below(int bound) {
        seed = seed * 6364136223846793005L + 1442695040888963407L;
        return (int) ((seed >>> 33) % bound);
    }

    private void same(String call, Check.Call got, Check.Call want) {
        calls++;
        CHECK.due(call, Check.outcome(got), Check.outcome(want));
    }

    private static long bit(boolean b) {
        return b ? 1 : 0;
    }

    /** Mostly sets of few variables; now and then one that is out of range. */
    private int set() {
        int width = kind == 3 ? 8 : 4;
        switch (below(12)) {
            case 0:
                return below(262) - 3;
            case 1:
            case 2:
                return 0;
            case 3:
            case 4:
            case 5:
                return 1 << below(width);
            default:
                return 1 << below(width) | 1 << below(width) | 1 << below(8);
        }
    }

    private int near(int count) {
        return below(count + 3) - 1;
    }

    private void step(String where) {
        int choice = below(100);
        if (choice < 40) {
            change(where, kind == 1 ? 2 + below(10) : below(12));
        } else if (choice < 50) {
            text(where);
        } else if (choice < 55) {
            slots(where);
        } else if (choice < 75) {
            trail(where);
        } else {
            questions(where);
        }
    }

    private void change(String where, int choice) {
        int a = choice < 2 && below(3) > 0 ? 1 << below(5) : set();
        int b = below(3) == 0 ? set() : set() & ~a;
        int i = near(r.constraintCount());
        int j = near(r.constraintCount());
        int bit = below(20) == 0 ? below(4) - 1 : below(2);
        switch (choice) {
            case 0:
            case 1:
                same(where + "addClause(" + a + ", " + b + ")", () -> x.addClause(a, b), () -> r.addClause(a, b));
                break;
            case 2:
            case 3:
                same(where + "addParity(" + a + ", " + bit + ")", () -> x.addParity(a, bit), () -> r.addParity(a, bit));
                break;
            case 4:
                if (kind != 2 || below(3) == 0) {
                    same(where + "removeConstraint(" + i + ")", () -> x.removeConstraint(i), () -> r.removeConstraint(i));
                }
                break;
            case 5:
                resolveSomehow(where);
                break;
            case 6:
                same(where + "sum(" + i + ", " + j + ")", () -> x.sum(i, j), () -> r.sum(i, j));
                break;
            case 7:
            case 8:
            case 9:
                int literal = below(30) == 0 ? below(20) - 2 : below(16);
                same(where + "decide(" + literal + ")", () -> x.decide(literal), () -> r.decide(literal));
                break;
            case 10:
                int level = near(r.level());
                same(where + "backtrack(" + level + ")", () -> x.backtrack(level), () -> r.backtrack(level));
                break;
            default:
                same(where + "learn()", () -> x.learn(), () -> r.learn());
                break;
        }
        if (below(6) == 0) {
            same(where + "undo()", () -> x.undo(), () -> r.undo());
        }
    }

    private void resolveSomehow(String where) {
        for (int k = 0; k < 4; k++) {
            int i = near(r.constraintCount());
            int j = near(r.constraintCount());
            int v = below(10) == 0 ? below(10) - 1 : below(5);
            same(where + "resolve(" + i + ", " + j + ", " + v + ")", () -> x.resolve(i, j, v), () -> r.resolve(i, j, v));
        }
    }

    private void text(String where) {
        if (kind != 4 && below(4) > 0) {
            return;
        }
        String letters = "abcdefghABCDEFGH;;;;==01";
        int count = below(12);
        if (below(3) == 0) {
            append(where, item());
        }
        for (int k = 0; k < count && below(4) == 0; k++) {
            int c = below(60) == 0 ? below(260) - 2 : letters.charAt(below(letters.length()));
            same(where + "append(" + c + ")", () -> x.append(c), () -> r.append(c));
        }
        same(where + "errorPosition()", () -> x.errorPosition(), () -> r.errorPosition());
        if (below(5) == 0) {
            same(where + "load()", () -> x.load(), () -> r.load());
        }
        if (below(r.errorPosition() == CnfXorSolver.NONE ? 12 : 3) == 0) {
            same(where + "clearText()", () -> x.clearText(), () -> r.clearText());
        }
    }

    private String item() {
        StringBuilder s = new StringBuilder();
        boolean parity = below(3) == 0;
        if (parity) {
            s.append('=').append(below(2));
        }
        int v = below(4);
        do {
            s.append((char) ((!parity && below(2) == 0 ? 'A' : 'a') + v));
            v += 1 + below(5);
        } while (v < 8);
        return s.append(';').toString();
    }

    private void append(String where, String s) {
        for (int k = 0; k < s.length(); k++) {
            int c = s.charAt(k);
            same(where + "append(" + c + ")", () -> x.append(c), () -> r.append(c));
        }
    }

    private void slots(String where) {
        int slot = below(10) == 0 ? below(4) - 1 : below(2);
        if (below(2) == 0) {
            same(where + "save(" + slot + ")", () -> x.save(slot), () -> r.save(slot));
        } else if (below(3) == 0) {
            same(where + "restore(" + slot + ")", () -> x.restore(slot), () -> r.restore(slot));
        }
    }

    private void trail(String where) {
        same(where + "level()", () -> x.level(), () -> r.level());
        same(where + "conflict()", () -> x.conflict(), () -> r.conflict());
        same(where + "learnedClause()", () -> x.learnedClause(), () -> r.learnedClause());
        for (int v = -1; v <= 8; v++) {
            int at = v;
            same(where + "value(" + v + ")", () -> x.value(at), () -> r.value(at));
            same(where + "reason(" + v + ")", () -> x.reason(at), () -> r.reason(at));
            same(where + "trailLiteral(" + v + ")", () -> x.trailLiteral(at), () -> r.trailLiteral(at));
        }
    }

    private void questions(String where) {
        int a = set();
        int b = below(4) == 0 ? set() : set() & ~a;
        int i = near(below(2) == 0 ? r.modelCount() : r.constraintCount());
        int bit = below(15) == 0 ? below(4) - 1 : below(2);
        switch (below(12)) {
            case 0:
                same(where + "constraintCount()", () -> x.constraintCount(), () -> r.constraintCount());
                same(where + "isParity(" + i + ")", () -> bit(x.isParity(i)), () -> bit(r.isParity(i)));
                same(where + "variables(" + i + ")", () -> x.variables(i), () -> r.variables(i));
                same(where + "negated(" + i + ")", () -> x.negated(i), () -> r.negated(i));
                break;
            case 1:
                same(where + "modelCount()", () -> x.modelCount(), () -> r.modelCount());
                break;
            case 2:
                same(where + "model(" + i + ")", () -> x.model(i), () -> r.model(i));
                break;
            case 3:
            case 4:
                same(where + "impliesClause(" + a + ", " + b + ")", () -> bit(x.impliesClause(a, b)),
                        () -> bit(r.impliesClause(a, b)));
                break;
            case 5:
            case 6:
                same(where + "impliesParity(" + a + ", " + bit + ")", () -> bit(x.impliesParity(a, bit)),
                        () -> bit(r.impliesParity(a, bit)));
                break;
            case 7:
                same(where + "core()", () -> x.core(), () -> r.core());
                break;
            case 8:
                same(where + "rank()", () -> x.rank(), () -> r.rank());
                same(where + "isConsistent()", () -> bit(x.isConsistent()), () -> bit(r.isConsistent()));
                break;
            case 9:
                for (int k = -1; k < 9; k++) {
                    int at = k;
                    same(where + "eliminatedRow(" + k + ")", () -> x.eliminatedRow(at), () -> r.eliminatedRow(at));
                }
                break;
            default:
                same(where + "solve()", () -> x.solve(), () -> r.solve());
                break;
        }
    }
}
