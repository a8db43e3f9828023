/** Promises 19 to 24: the trail, its reasons, its conflict and the learned clause. */
public final class TrailTest {
    private static final Check CHECK = new Check();
    private static final int NONE = CnfXorSolver.NONE;

    public static void main(String[] args) {
        levelAndValues();
        smallestNumberGoesFirst();
        violatedBeforeUnit();
        parityPropagation();
        trailLiterals();
        reasons();
        sizeZero();
        learnedClauses();
        learnedFromParities();
        backjumpOverALevel();
        CHECK.end();
    }

    private static void levelAndValues() {
        CnfXorSolver x = Calls.loaded("H;AG;");
        CHECK.due("P19 level()", x.level(), 0);
        CHECK.due("P20 value(7)", x.value(7), CnfXorSolver.FALSE);
        CHECK.due("P20 value(0)", x.value(0), CnfXorSolver.UNASSIGNED);
        x.decide(0);
        CHECK.due("P19 level() after a decision", x.level(), 1);
        CHECK.due("P20 value(0)", x.value(0), CnfXorSolver.TRUE);
        CHECK.due("P20 value(6)", x.value(6), CnfXorSolver.FALSE);
        for (int v : new int[] {-1, 8, Integer.MIN_VALUE, Integer.MAX_VALUE}) {
            CHECK.isBadIndex("P20 value(" + v + ")", () -> x.value(v));
            CHECK.isBadIndex("P22 reason(" + v + ")", () -> x.reason(v));
        }
    }

    /** After each assignment the search starts again at constraint 0. */
    private static void smallestNumberGoesFirst() {
        CnfXorSolver x = Calls.loaded("Bd;Cd;b;c;");
        int[] trail = {2, 6, 4};
        for (int i = 0; i < 3; i++) {
            CHECK.due("P21 trailLiteral(" + i + ")", x.trailLiteral(i), trail[i]);
        }
        CHECK.due("P22 reason(1)", x.reason(1), 2);
        CHECK.due("P22 reason(3)", x.reason(3), 0);
        CHECK.due("P22 reason(2)", x.reason(2), 3);
        CnfXorSolver twice = Calls.loaded("ab;ac;A;");
        CHECK.due("P22 reason(1) by constraint 0", twice.reason(1), 0);
        CHECK.due("P21 trailLiteral(1)", twice.trailLiteral(1), 2);
        CHECK.due("P21 trailLiteral(2)", twice.trailLiteral(2), 4);
    }

    private static void violatedBeforeUnit() {
        CnfXorSolver x = Calls.loaded("Ab;AC;AB;ad;");
        x.decide(0);
        CHECK.due("P23 conflict(): AC goes before the violated AB", x.conflict(), 2);
        CHECK.due("P20 value(2)", x.value(2), CnfXorSolver.FALSE);
        CHECK.due("P20 value(3): ad is satisfied", x.value(3), CnfXorSolver.UNASSIGNED);
        CnfXorSolver later = Calls.loaded("Ab;AB;AC;");
        later.decide(0);
        CHECK.due("P23 conflict()", later.conflict(), 1);
        CHECK.due("P20 value(2): propagation ended", later.value(2), CnfXorSolver.UNASSIGNED);
        CnfXorSolver longest = Calls.loaded("a;Ab;Bc;Cd;De;Ef;Fg;Gh;AH;");
        CHECK.due("P23 conflict() with all assigned", longest.conflict(), 8);
        CHECK.due("P21 trailLiteral(7)", longest.trailLiteral(7), 14);
        CHECK.due("P23 no conflict", new CnfXorSolver().conflict(), NONE);
    }

    private static void parityPropagation() {
        for (int a = 0; a < 2; a++) {
            for (int bit = 0; bit < 2; bit++) {
                CnfXorSolver x = new CnfXorSolver();
                x.addParity(3, bit);
                CHECK.due("TRAIL two open variables: nothing follows", x.value(1), CnfXorSolver.UNASSIGNED);
                x.decide(a);
                boolean first = a == 0;
                CHECK.due("TRAIL parity " + bit + " with " + a, x.value(1) == 1, first != (bit == 1));
                CHECK.due("TRAIL its reason", x.reason(1), 0);
                x.addParity(3, 1 - bit);
                CHECK.due("TRAIL the other bit is violated", x.conflict(), 1);
            }
        }
        CnfXorSolver x = Calls.loaded("=1abc;=0d;=1e;");
        CHECK.due("TRAIL =0d", x.value(3), CnfXorSolver.FALSE);
        CHECK.due("TRAIL =1e", x.value(4), CnfXorSolver.TRUE);
        x.decide(0);
        CHECK.due("TRAIL two are open", x.value(1), CnfXorSolver.UNASSIGNED);
        CHECK.due("TRAIL decide(2)", x.decide(2), 5);
        CHECK.due("TRAIL three are odd", x.value(2), CnfXorSolver.TRUE);
    }

    private static void trailLiterals() {
        CnfXorSolver x = Calls.loaded("H;Ag;");
        CHECK.due("P21 trailLiteral(0)", x.trailLiteral(0), 15);
        CHECK.isBadIndex("P21 trailLiteral(1)", () -> x.trailLiteral(1));
        x.decide(5);
        x.decide(0);
        CHECK.due("P21 trailLiteral(1)", x.trailLiteral(1), 5);
        CHECK.due("P21 trailLiteral(2)", x.trailLiteral(2), 0);
        CHECK.due("P21 trailLiteral(3)", x.trailLiteral(3), 12);
        CHECK.isBadIndex("P21 trailLiteral(4)", () -> x.trailLiteral(4));
        CHECK.isBadIndex("P21 trailLiteral(-1)", () -> x.trailLiteral(-1));
        CHECK.isBadIndex("P21 trailLiteral(greatest)", () -> x.trailLiteral(Integer.MAX_VALUE));
        CnfXorSolver all = Calls.loaded("=1abcdefgh;");
        for (int v = 0; v < 7; v++) {
            all.decide(2 * v);
        }
        CHECK.due("P21 trailLiteral(7)", all.trailLiteral(7), 15);
        CHECK.isBadIndex("P21 trailLiteral(8)", () -> all.trailLiteral(8));
    }

    private static void reasons() {
        CnfXorSolver x = Calls.loaded("gh;Ab;");
        x.decide(0);
        CHECK.due("P22 reason(0) of a decision", x.reason(0), NONE);
        CHECK.due("P22 reason(1)", x.reason(1), 1);
        CHECK.due("P22 reason(6) of none", x.reason(6), NONE);
        x.backtrack(0);
        CHECK.due("P22 reason(1) after backtrack", x.reason(1), NONE);
        x.removeConstraint(0);
        x.decide(0);
        CHECK.due("P22 reason(1) after a removal", x.reason(1), 0);
    }

    private static void sizeZero() {
        CnfXorSolver x = new CnfXorSolver();
        x.addClause(1, 0);
        x.addClause(0, 0);
        x.addClause(2, 0);
        CHECK.due("P23 conflict(): the empty clause", x.conflict(), 1);
        CHECK.due("P20 value(0) before it", x.value(0), CnfXorSolver.TRUE);
        CHECK.due("P20 value(1) behind it", x.value(1), CnfXorSolver.UNASSIGNED);
        CHECK.isBadState("P24 learnedClause() at level 0", () -> x.learnedClause());
    }

    private static void learnedClauses() {
        CnfXorSolver x = Calls.loaded("Ab;BCd;BCe;DEf;DEF;");
        CHECK.isBadState("P24 learnedClause() without a conflict", () -> x.learnedClause());
        x.decide(4);
        CHECK.isBadState("P24 learnedClause() without a conflict at level 1", () -> x.learnedClause());
        x.decide(0);
        CHECK.due("P23 conflict()", x.conflict(), 4);
        CHECK.due("P24 b is the one that stays, not a", x.learnedClause(), 256 * 6);
        CHECK.due("P17 learn()", x.learn(), 1);
        CHECK.due("P20 value(1)", x.value(1), CnfXorSolver.FALSE);
        CHECK.due("P22 reason(1)", x.reason(1), 5);
        CHECK.due("P22 reason(0)", x.reason(0), 0);
        CnfXorSolver one = Calls.loaded("Ab;AB;");
        one.decide(0);
        CHECK.due("P24 learnedClause() of one literal", one.learnedClause(), 256);
        CHECK.due("P17 learn() to level 0", one.learn(), 0);
        CHECK.due("P20 value(0)", one.value(0), CnfXorSolver.FALSE);
    }

    private static void learnedFromParities() {
        CnfXorSolver x = Calls.loaded("=1abc;=0bcd;=1bd;");
        x.decide(1);
        CHECK.due("P20 value(3): nothing follows yet", x.value(3), CnfXorSolver.UNASSIGNED);
        x.decide(3);
        // c and d are true, so b + d = 1 holds
        CHECK.due("P23 conflict()", x.conflict(), NONE);
        x.addParity(12, 1);
        CHECK.due("P23 conflict() of c + d = 1", x.conflict(), 3);
        CHECK.due("P24 learnedClause()", x.learnedClause(), 256 * 0 + 3);
        CHECK.due("P17 learn()", x.learn(), 1);
        CHECK.due("P22 reason(1)", x.reason(1), 4);
    }

    private static void backjumpOverALevel() {
        CnfXorSolver x = Calls.loaded("aCe;aCE;");
        x.decide(1);
        x.decide(14);
        x.decide(12);
        x.decide(4);
        CHECK.due("P24 learnedClause()", x.learnedClause(), 256 * 4 + 1);
        CHECK.due("P17 learn() jumps over two levels", x.learn(), 1);
        CHECK.due("P19 level()", x.level(), 1);
        CHECK.due("P20 value(7)", x.value(7), CnfXorSolver.UNASSIGNED);
        CHECK.due("P20 value(2)", x.value(2), CnfXorSolver.FALSE);
        CHECK.due("P22 reason(2)", x.reason(2), 2);
        CnfXorSolver low = Calls.loaded("h;HAb;HAB;");
        low.decide(4);
        low.decide(0);
        CHECK.due("P24 a variable of level 0 stays in the clause", low.learnedClause(), 256 * 129);
        CHECK.due("P17 learn() with level 0 as the greatest", low.learn(), 0);
        CHECK.due("P22 reason(0)", low.reason(0), 3);
    }
}
