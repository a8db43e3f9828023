/**
 * Random formulas close to the border of satisfiability, searched by decide and learn until
 * nothing is left to do: each trail, conflict, learned clause and backjump against Reference.
 */
public final class RandomSearchTest {
    /** An object is promised 512 calls: filling, ten steps of search and five undos make less. */
    private static final int RUNS = 8000, STEPS = 10, UNDOS = 5;
    private static final Check CHECK = new Check();
    private static int learnedInAll = 0;

    private long seed;
    private final CnfXorSolver x = new CnfXorSolver();
    private final Reference r = new Reference();

    private RandomSearchTest(int run) {
        seed = run * 104729L + 5;
    }

    public static void main(String[] args) {
        for (int run = 0; run < RUNS; run++) {
            new RandomSearchTest(run).search("run " + run + " ");
        }
        CHECK.due("enough clauses were learned", learnedInAll > 2000, true);
        CHECK.end();
    }

    private int below(int bound) {
        seed = seed * 6364136223846793005L + 1442695040888963407L;
        return (int) ((seed >>> 33) % bound);
    }

    private void fill() {
        int count = 8 + below(15);
        int width = 5 + below(4);
        int parities = below(4);
        for (int i = 0; i < count; i++) {
            int set = 0;
            for (int k = 0; k < 2 + below(3); k++) {
                set |= 1 << below(width);
            }
            if (below(6) < parities) {
                int bit = below(2);
                x.addParity(set, bit);
                r.addParity(set, bit);
            } else {
                int n = set & below(256);
                x.addClause(set & ~n, n);
                r.addClause(set & ~n, n);
            }
            // what is assigned at level 0 leaves nothing to search
            if (r.conflict() != CnfXorSolver.NONE || below(4) > 0 && !Check.outcome(() -> r.trailLiteral(0)).contains("x")) {
                x.undo();
                r.undo();
            }
        }
    }

    private void search(String where) {
        fill();
        CHECK.due(where + "solve()", x.solve(), r.solve());
        CHECK.due(where + "core()", x.core(), r.core());
        for (int step = 0; step < STEPS && (r.conflict() == CnfXorSolver.NONE || r.level() > 0); step++) {
            if (step % 8 == 7) {
                CHECK.due(where + "backtrack(0)", x.backtrack(0), r.backtrack(0));
            } else if (r.conflict() == CnfXorSolver.NONE) {
                int literal = below(16);
                CHECK.due(where + "decide", Check.outcome(() -> x.decide(literal)), Check.outcome(() -> r.decide(literal)));
            } else {
                CHECK.due(where + "learnedClause", Check.outcome(() -> x.learnedClause()),
                        Check.outcome(() -> r.learnedClause()));
                String learned = Check.outcome(() -> r.learn());
                learnedInAll += learned.length() == 1 ? 1 : 0;
                CHECK.due(where + "learn", Check.outcome(() -> x.learn()), learned);
                CHECK.due(where + "solve() then", x.solve(), r.solve());
            }
            trail(where + "step " + step + " ");
        }
        for (int k = 0; k < UNDOS; k++) {
            CHECK.due(where + "undo", Check.outcome(() -> x.undo()), Check.outcome(() -> r.undo()));
            trail(where + "undo " + k + " ");
        }
    }

    private void trail(String where) {
        CHECK.due(where + "level()", x.level(), r.level());
        CHECK.due(where + "conflict()", x.conflict(), r.conflict());
        for (int v = 0; v < 8; v++) {
            int at = v;
            CHECK.due(where + "value", x.value(v), r.value(v));
            CHECK.due(where + "reason", x.reason(v), r.reason(v));
            CHECK.due(where + "trailLiteral", Check.outcome(() -> x.trailLiteral(at)),
                    Check.outcome(() -> r.trailLiteral(at)));
        }
    }
}
