/** Promises 1 and 6 to 18: the formula, the actions and undo. */
public final class ActionsTest {
    private static final Check CHECK = new Check();
    private static final int LEAST = Integer.MIN_VALUE, GREATEST = Integer.MAX_VALUE;

    public static void main(String[] args) {
        newObject();
        formula();
        addClause();
        addParity();
        removeConstraint();
        resolve();
        sum();
        decide();
        decisionsThatNoLongerFit();
        backtrack();
        learn();
        undo();
        undoAfterFourteen();
        refusedCallsAreNoActions();
        CHECK.end();
    }

    private static void newObject() {
        CnfXorSolver x = new CnfXorSolver();
        CHECK.due("P1 constraintCount()", x.constraintCount(), 0);
        CHECK.due("P1 level()", x.level(), 0);
        CHECK.due("P1 conflict()", x.conflict(), CnfXorSolver.NONE);
        CHECK.due("P1 modelCount()", x.modelCount(), 256);
        CHECK.due("P1 core()", x.core(), CnfXorSolver.NONE);
        CHECK.due("P1 rank()", x.rank(), 0);
        CHECK.due("P1 isConsistent()", x.isConsistent(), true);
        CHECK.due("P1 solve()", x.solve(), 0);
        CHECK.due("P1 errorPosition()", x.errorPosition(), CnfXorSolver.NONE);
        CHECK.due("P1 clearText()", x.clearText(), 0);
        for (int v = 0; v < 8; v++) {
            CHECK.due("P1 value(" + v + ")", x.value(v), CnfXorSolver.UNASSIGNED);
        }
        CHECK.isBadState("P1 undo()", () -> x.undo());
        CHECK.isBadState("P1 restore(0)", () -> x.restore(0));
    }

    private static void formula() {
        CnfXorSolver x = Calls.loaded("aB;=1gh;");
        CHECK.due("P6 constraintCount()", x.constraintCount(), 2);
        CHECK.due("P7 isParity(0)", x.isParity(0), false);
        CHECK.due("P7 isParity(1)", x.isParity(1), true);
        CHECK.due("P8 variables(0)", x.variables(0), 1);
        CHECK.due("P8 variables(1)", x.variables(1), 192);
        CHECK.due("P9 negated(0)", x.negated(0), 2);
        CHECK.due("P9 negated(1)", x.negated(1), 1);
        for (int i : new int[] {-1, 2, 24, LEAST, GREATEST}) {
            CHECK.isBadIndex("P7 isParity(" + i + ")", () -> x.isParity(i) ? 1 : 0);
            CHECK.isBadIndex("P8 variables(" + i + ")", () -> x.variables(i));
            CHECK.isBadIndex("P9 negated(" + i + ")", () -> x.negated(i));
        }
    }

    private static void addClause() {
        CnfXorSolver x = new CnfXorSolver();
        CHECK.due("P10 addClause(170, 85)", x.addClause(170, 85), 0);
        CHECK.due("P10 addClause(255, 0)", x.addClause(255, 0), 1);
        CHECK.due("P10 addClause(0, 255)", x.addClause(0, 255), 2);
        CHECK.due("P10 variables(0)", x.variables(0), 170);
        CHECK.due("P10 negated(0)", x.negated(0), 85);
        CHECK.due("P10 negated(2)", x.negated(2), 255);
        CHECK.due("P10 isParity(0)", x.isParity(0), false);
        CHECK.due("P10 addClause(0, 0)", x.addClause(0, 0), 3);
        CHECK.due("P10 the empty clause is violated", x.conflict(), 3);
        for (int bad : new int[] {-1, 256, LEAST, GREATEST}) {
            CHECK.isBadArgument("P10 addClause(" + bad + ", 0)", () -> x.addClause(bad, 0));
            CHECK.isBadArgument("P10 addClause(0, " + bad + ")", () -> x.addClause(0, bad));
        }
        CHECK.isBadArgument("P10 addClause(1, 1)", () -> x.addClause(1, 1));
        CHECK.isBadArgument("P10 addClause(128, 255)", () -> x.addClause(128, 255));
        CnfXorSolver full = Calls.full();
        CHECK.due("P10 constraintCount()", full.constraintCount(), 24);
        CHECK.isBadState("P10 addClause(1, 0) to 24", () -> full.addClause(1, 0));
        CHECK.isBadArgument("P10 addClause(1, 1) to 24", () -> full.addClause(1, 1));
        CHECK.isBadArgument("P10 addClause(256, 0) to 24", () -> full.addClause(256, 0));
        CHECK.due("P10 constraintCount() then", full.constraintCount(), 24);
    }

    private static void addParity() {
        CnfXorSolver x = new CnfXorSolver();
        CHECK.due("P11 addParity(255, 1)", x.addParity(255, 1), 0);
        CHECK.due("P11 addParity(0, 0)", x.addParity(0, 0), 1);
        CHECK.due("P11 the empty parity with bit 0 is satisfied", x.conflict(), CnfXorSolver.NONE);
        CHECK.due("P11 addParity(0, 1)", x.addParity(0, 1), 2);
        CHECK.due("P11 the empty parity with bit 1 is violated", x.conflict(), 2);
        CHECK.due("P11 isParity(1)", x.isParity(1), true);
        CHECK.due("P11 variables(0)", x.variables(0), 255);
        CHECK.due("P11 negated(0)", x.negated(0), 1);
        CHECK.due("P11 negated(1)", x.negated(1), 0);
        for (int bad : new int[] {-1, 256, LEAST, GREATEST}) {
            CHECK.isBadArgument("P11 addParity(" + bad + ", 0)", () -> x.addParity(bad, 0));
        }
        for (int bad : new int[] {-1, 2, LEAST, GREATEST}) {
            CHECK.isBadArgument("P11 addParity(1, " + bad + ")", () -> x.addParity(1, bad));
        }
        CnfXorSolver full = Calls.full();
        CHECK.isBadState("P11 addParity(1, 0) to 24", () -> full.addParity(1, 0));
        CHECK.isBadArgument("P11 addParity(1, 2) to 24", () -> full.addParity(1, 2));
        CHECK.isBadArgument("P11 addParity(-1, 0) to 24", () -> full.addParity(-1, 0));
    }

    private static void removeConstraint() {
        CnfXorSolver x = Calls.loaded("a;=1bc;D;");
        CHECK.isBadIndex("P12 removeConstraint(-1)", () -> x.removeConstraint(-1));
        CHECK.isBadIndex("P12 removeConstraint(3)", () -> x.removeConstraint(3));
        CHECK.due("P12 removeConstraint(0)", x.removeConstraint(0), 2);
        CHECK.due("P12 isParity(0)", x.isParity(0), true);
        CHECK.due("P12 variables(0)", x.variables(0), 6);
        CHECK.due("P12 negated(1)", x.negated(1), 8);
        CHECK.due("P12 value(0)", x.value(0), CnfXorSolver.UNASSIGNED);
        CHECK.due("P12 reason(3)", x.reason(3), 1);
        CHECK.due("P12 removeConstraint(1)", x.removeConstraint(1), 1);
        CHECK.due("P12 removeConstraint(0) of the last", x.removeConstraint(0), 0);
        CHECK.isBadIndex("P12 removeConstraint(0) of none", () -> x.removeConstraint(0));
        CnfXorSolver full = Calls.full();
        full.removeConstraint(23);
        CHECK.due("P12 there is room again", full.addClause(3, 0), 23);
    }

    private static void resolve() {
        CnfXorSolver x = Calls.loaded("abH;Acg;=1ab;aC;bA;");
        CHECK.due("P13 resolve(0, 1, 0)", x.resolve(0, 1, 0), 5);
        CHECK.due("P13 variables(5)", x.variables(5), 2 + 4 + 64);
        CHECK.due("P13 negated(5)", x.negated(5), 128);
        CHECK.due("P13 isParity(5)", x.isParity(5), false);
        CHECK.due("P13 resolve(0, 4, 0), with b in both", x.resolve(0, 4, 0), 6);
        CHECK.due("P13 variables(6)", x.variables(6), 2);
        CHECK.isBadState("P13 resolve(1, 0, 0): the wrong way round", () -> x.resolve(1, 0, 0));
        CHECK.isBadState("P13 resolve(0, 1, 1): only in one", () -> x.resolve(0, 1, 1));
        CHECK.isBadState("P13 resolve(0, 1, 7): only in N of the first", () -> x.resolve(0, 1, 7));
        CHECK.isBadState("P13 resolve(4, 1, 0): A in both", () -> x.resolve(4, 1, 0));
        CHECK.isBadState("P13 resolve(0, 3, 0): a in both", () -> x.resolve(0, 3, 0));
        CHECK.isBadState("P13 resolve(0, 0, 0): twice the same", () -> x.resolve(0, 0, 0));
        CHECK.isBadState("P13 resolve(2, 1, 0): a parity first", () -> x.resolve(2, 1, 0));
        CHECK.isBadState("P13 resolve(0, 2, 0): a parity second", () -> x.resolve(0, 2, 0));
        CHECK.isBadState("P13 resolve(3, 1, 0): C and c in the result", () -> x.resolve(3, 1, 0));
        CHECK.isBadIndex("P13 resolve(7, 1, 0)", () -> x.resolve(7, 1, 0));
        CHECK.isBadIndex("P13 resolve(-1, 1, 0)", () -> x.resolve(-1, 1, 0));
        CHECK.isBadIndex("P13 resolve(0, 7, 0)", () -> x.resolve(0, 7, 0));
        CHECK.isBadIndex("P13 resolve(0, -1, 0)", () -> x.resolve(0, -1, 0));
        CHECK.isBadIndex("P13 resolve(0, 1, 8)", () -> x.resolve(0, 1, 8));
        CHECK.isBadIndex("P13 resolve(0, 1, -1)", () -> x.resolve(0, 1, -1));
        CHECK.isBadIndex("P13 resolve(2, 1, 8): the index goes first", () -> x.resolve(2, 1, 8));
        CHECK.isBadIndex("P13 resolve(2, 9, 0): the index goes first", () -> x.resolve(2, 9, 0));
        CHECK.due("P13 constraintCount()", x.constraintCount(), 7);
        CnfXorSolver full = Calls.loaded("a;A;" + "h;".repeat(22));
        CHECK.isBadState("P13 resolve(0, 1, 0) to 24", () -> full.resolve(0, 1, 0));
        CHECK.isBadIndex("P13 resolve(0, 24, 0) to 24", () -> full.resolve(0, 24, 0));
        full.removeConstraint(23);
        CHECK.due("P13 resolve(0, 1, 0) to the empty clause", full.resolve(0, 1, 0), 23);
        CHECK.due("P13 variables(23)", full.variables(23), 0);
        CHECK.due("P13 negated(23)", full.negated(23), 0);
    }

    private static void sum() {
        CnfXorSolver x = Calls.loaded("=1ab;=1bc;=0c;a;");
        CHECK.due("P14 sum(0, 1)", x.sum(0, 1), 4);
        CHECK.due("P14 variables(4)", x.variables(4), 5);
        CHECK.due("P14 negated(4)", x.negated(4), 0);
        CHECK.due("P14 isParity(4)", x.isParity(4), true);
        CHECK.due("P14 sum(1, 2)", x.sum(1, 2), 5);
        CHECK.due("P14 variables(5)", x.variables(5), 2);
        CHECK.due("P14 negated(5)", x.negated(5), 1);
        CHECK.due("P14 sum(0, 0)", x.sum(0, 0), 6);
        CHECK.due("P14 variables(6)", x.variables(6), 0);
        CHECK.due("P14 negated(6)", x.negated(6), 0);
        CHECK.isBadState("P14 sum(0, 3)", () -> x.sum(0, 3));
        CHECK.isBadState("P14 sum(3, 0)", () -> x.sum(3, 0));
        CHECK.isBadIndex("P14 sum(0, 7)", () -> x.sum(0, 7));
        CHECK.isBadIndex("P14 sum(7, 0)", () -> x.sum(7, 0));
        CHECK.isBadIndex("P14 sum(-1, 0)", () -> x.sum(-1, 0));
        CHECK.isBadIndex("P14 sum(3, 7): the index goes first", () -> x.sum(3, 7));
        CnfXorSolver full = Calls.loaded("=0a;".repeat(4) + "h;".repeat(20));
        CHECK.isBadState("P14 sum(0, 1) to 24", () -> full.sum(0, 1));
        CHECK.isBadIndex("P14 sum(0, 24) to 24", () -> full.sum(0, 24));
    }

    private static void decide() {
        CnfXorSolver x = Calls.loaded("Ab;=1bc;dE;");
        CHECK.isBadIndex("P15 decide(-1)", () -> x.decide(-1));
        CHECK.isBadIndex("P15 decide(16)", () -> x.decide(16));
        CHECK.due("P15 decide(0)", x.decide(0), 3);
        CHECK.due("P15 level()", x.level(), 1);
        CHECK.due("P15 value(1)", x.value(1), CnfXorSolver.TRUE);
        CHECK.due("P15 value(2)", x.value(2), CnfXorSolver.FALSE);
        CHECK.isBadState("P15 decide(0) again", () -> x.decide(0));
        CHECK.isBadState("P15 decide(1) against it", () -> x.decide(1));
        CHECK.isBadState("P15 decide(4) of a propagated one", () -> x.decide(4));
        CHECK.due("P15 decide(15)", x.decide(15), 4);
        CHECK.due("P15 value(7)", x.value(7), CnfXorSolver.FALSE);
        CHECK.due("P15 level() then", x.level(), 2);
        CnfXorSolver conflicting = Calls.loaded("AB;aB;b;");
        CHECK.due("P15 the conflict", conflicting.conflict(), 1);
        CHECK.isBadState("P15 decide(14) with a conflict", () -> conflicting.decide(14));
        CHECK.isBadIndex("P15 decide(16) with a conflict", () -> conflicting.decide(16));
        CnfXorSolver free = new CnfXorSolver();
        for (int v = 0; v < 8; v++) {
            CHECK.due("P15 decide(" + 2 * v + ")", free.decide(2 * v), v + 1);
        }
        for (int literal = 0; literal < 16; literal++) {
            int l = literal;
            CHECK.isBadState("P15 decide(" + l + ") with all assigned", () -> free.decide(l));
        }
    }

    private static void decisionsThatNoLongerFit() {
        CnfXorSolver x = new CnfXorSolver();
        x.decide(0);
        x.decide(2);
        x.decide(4);
        x.decide(6);
        CHECK.due("TRAIL addClause(4, 1)", x.addClause(4, 1), 0);
        CHECK.due("TRAIL c follows from a: its decision and the later one go", x.level(), 2);
        CHECK.due("TRAIL reason(2)", x.reason(2), 0);
        CHECK.due("TRAIL value(3)", x.value(3), CnfXorSolver.UNASSIGNED);
        x.removeConstraint(0);
        CHECK.due("TRAIL removed decisions do not come back", x.level(), 2);
        CHECK.due("TRAIL value(2)", x.value(2), CnfXorSolver.UNASSIGNED);
        x.addClause(0, 1);
        CHECK.due("TRAIL A at level 0: all decisions go", x.level(), 0);
        CHECK.due("TRAIL value(0)", x.value(0), CnfXorSolver.FALSE);
        CHECK.due("TRAIL undo()", x.undo(), 6);
        CHECK.due("TRAIL the decisions are back", x.level(), 2);
        x.addClause(0, 3);
        x.addClause(0, 0);
        CHECK.due("TRAIL conflict at level 0: no decision stays", x.level(), 0);
        CHECK.due("TRAIL conflict()", x.conflict(), 1);
    }

    private static void backtrack() {
        CnfXorSolver x = Calls.loaded("h;Ab;");
        CHECK.isBadArgument("P16 backtrack(1) at level 0", () -> x.backtrack(1));
        CHECK.due("P16 backtrack(0) at level 0", x.backtrack(0), 1);
        CHECK.due("P16 that is an action", x.undo(), 0);
        x.decide(0);
        x.decide(4);
        x.decide(6);
        CHECK.isBadArgument("P16 backtrack(-1)", () -> x.backtrack(-1));
        CHECK.isBadArgument("P16 backtrack(4)", () -> x.backtrack(4));
        CHECK.isBadArgument("P16 backtrack(greatest)", () -> x.backtrack(GREATEST));
        CHECK.due("P16 backtrack(3)", x.backtrack(3), 5);
        CHECK.due("P16 backtrack(1)", x.backtrack(1), 3);
        CHECK.due("P16 level()", x.level(), 1);
        CHECK.due("P16 value(2)", x.value(2), CnfXorSolver.UNASSIGNED);
        CHECK.due("P16 backtrack(0)", x.backtrack(0), 1);
        CHECK.due("P16 value(1)", x.value(1), CnfXorSolver.UNASSIGNED);
        CHECK.due("P16 undo()", x.undo(), 5);
        CHECK.due("P16 level() after undo", x.level(), 1);
    }

    private static void learn() {
        CnfXorSolver x = Calls.loaded("ABCd;ABCD;");
        CHECK.isBadState("P17 learn() without a conflict", () -> x.learn());
        x.decide(0);
        x.decide(14);
        x.decide(2);
        x.decide(4);
        CHECK.due("P17 conflict()", x.conflict(), 1);
        CHECK.due("P17 learn()", x.learn(), 3);
        CHECK.due("P17 level()", x.level(), 3);
        CHECK.due("P17 variables(2)", x.variables(2), 0);
        CHECK.due("P17 negated(2)", x.negated(2), 7);
        CHECK.due("P17 isParity(2)", x.isParity(2), false);
        CHECK.due("P17 reason(2)", x.reason(2), 2);
        CHECK.due("P17 value(2)", x.value(2), CnfXorSolver.FALSE);
        CHECK.due("P17 undo()", x.undo(), 4);
        CHECK.due("P17 level() after undo", x.level(), 4);
        CHECK.due("P17 constraintCount() after undo", x.constraintCount(), 2);
        CnfXorSolver atZero = Calls.loaded("a;A;");
        CHECK.due("P17 conflict() at level 0", atZero.conflict(), 1);
        CHECK.isBadState("P17 learn() at level 0", () -> atZero.learn());
        CnfXorSolver full = Calls.loaded("Ab;AB;" + "gh;".repeat(22));
        full.decide(0);
        CHECK.due("P17 learnedClause() with 24", full.learnedClause(), 256);
        CHECK.isBadState("P17 learn() to 24", () -> full.learn());
        CHECK.due("P17 level() then", full.level(), 1);
    }

    private static void act(CnfXorSolver x, int step) {
        switch (step) {
            case 0:
                x.addClause(128, 64);
                break;
            case 1:
                x.addParity(48, 1);
                break;
            case 2:
                x.sum(0, 1);
                break;
            case 3:
                x.resolve(2, 3, 1);
                break;
            case 4:
                x.decide(0);
                break;
            case 5:
                x.removeConstraint(0);
                break;
            default:
                x.backtrack(0);
                break;
        }
    }

    private static CnfXorSolver acted(int steps) {
        CnfXorSolver x = Calls.loaded("=1ab;=1bc;bD;Be;");
        for (int step = 0; step < steps; step++) {
            act(x, step);
        }
        return x;
    }

    private static void undo() {
        for (int i = 6; i >= 0; i--) {
            CnfXorSolver x = acted(7);
            x.append('b');
            x.clearText();
            Calls.type(x, "=1ab;=1bc;bD;Be;");
            for (int left = 6; left >= i; left--) {
                CHECK.due("P18 undo() to " + left, x.undo(), left);
            }
            CHECK.due("P18 what is seen at " + i, Calls.seen(x), Calls.seen(acted(i)));
        }
        CnfXorSolver x = acted(1);
        x.undo();
        CHECK.isBadState("P18 undo() too often", () -> x.undo());
        CHECK.due("P18 a refused undo changes nothing", Calls.seen(x), Calls.seen(acted(0)));
        x.addClause(1, 0);
        CHECK.due("P18 undo() of a later action", x.undo(), 0);
    }

    private static void undoAfterFourteen() {
        CnfXorSolver x = new CnfXorSolver();
        for (int i = 0; i < 24; i++) {
            x.addParity(i + 1, i & 1);
        }
        for (int left = 13; left >= 0; left--) {
            CHECK.due("P18 undo() with " + left + " left", x.undo(), left);
            CHECK.due("P18 constraintCount() with " + left + " left", x.constraintCount(), left + 10);
            CHECK.due("P18 the last one with " + left + " left", x.variables(left + 9), left + 10);
        }
        CHECK.isBadState("P18 the fifteenth undo()", () -> x.undo());
        CHECK.due("P18 constraintCount() at the end", x.constraintCount(), 10);
        for (int i = 0; i < 14; i++) {
            x.addClause(1, 0);
        }
        CHECK.due("P18 undo() after fourteen", x.undo(), 13);
        x.addClause(1, 0);
        x.backtrack(0);
        CHECK.due("P18 undo() after fifteen", x.undo(), 13);
    }

    private static void refusedCallsAreNoActions() {
        CnfXorSolver x = Calls.loaded("ab;Ab;=1cd;" + "g;".repeat(21));
        String before = Calls.seen(x);
        Check.outcome(() -> x.addClause(1, 0));
        Check.outcome(() -> x.addClause(1, 1));
        Check.outcome(() -> x.addParity(1, 0));
        Check.outcome(() -> x.addParity(1, 2));
        Check.outcome(() -> x.removeConstraint(24));
        Check.outcome(() -> x.resolve(0, 1, 0));
        Check.outcome(() -> x.resolve(0, 1, 1));
        Check.outcome(() -> x.sum(2, 2));
        Check.outcome(() -> x.sum(2, 0));
        Check.outcome(() -> x.decide(12));
        Check.outcome(() -> x.decide(16));
        Check.outcome(() -> x.backtrack(1));
        Check.outcome(() -> x.learn());
        Check.outcome(() -> x.restore(0));
        CHECK.due("UNDO refused calls change nothing", Calls.seen(x), before);
        CHECK.isBadState("UNDO refused calls are not remembered", () -> x.undo());
    }
}
