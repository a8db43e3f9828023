/** The sentences of promises 10 to 16. */
final class ActionSentences {
    private static final int[] NO_SETS = {-1, 256, 257, 511, 65536, Integer.MIN_VALUE, Integer.MAX_VALUE};
    private static final int[] NO_BITS = {-1, 2, 3, 256, Integer.MIN_VALUE, Integer.MAX_VALUE};
    private static final int[] NO_CONSTRAINTS_OF_THREE = {-1, 3, 24, 32, 65536, Integer.MIN_VALUE, Integer.MAX_VALUE};
    private static final int[] NO_VARIABLES = {-1, 8, 32, 33, 256, Integer.MIN_VALUE, Integer.MAX_VALUE};

    private ActionSentences() {
    }

    private static void constraint(Check c, CnfXorSolver x, int i, boolean isParity, int variables, int negated) {
        c.due("isParity(" + i + ")", x.isParity(i), isParity);
        c.due("variables(" + i + ")", x.variables(i), variables);
        c.due("negated(" + i + ")", x.negated(i), negated);
    }

    // ---- promise 10

    @Sentence(of = "Promise 10", says = "Adds a clause at the end of the formula.")
    static void addsClause(Check c) {
        CnfXorSolver x = Calls.loaded("a;=1b;");
        x.addClause(4, 8);
        c.due("constraintCount()", x.constraintCount(), 3);
        constraint(c, x, 0, false, 1, 0);
        constraint(c, x, 1, true, 2, 1);
        constraint(c, x, 2, false, 4, 8);
    }

    @Sentence(of = "Promise 10", says = "`p`: set P, 0 to 255 - `n`: set N, 0 to 255")
    static void clauseSets(Check c) {
        CnfXorSolver x = new CnfXorSolver();
        c.due("addClause(0, 255)", x.addClause(0, 255), 0);
        c.due("addClause(255, 0)", x.addClause(255, 0), 1);
        c.due("addClause(0, 0)", x.addClause(0, 0), 2);
        constraint(c, x, 0, false, 0, 255);
        constraint(c, x, 1, false, 255, 0);
        constraint(c, x, 2, false, 0, 0);
    }

    @Sentence(of = "Promise 10", says = "Returns the number of the clause.")
    static void clauseNumber(Check c) {
        CnfXorSolver x = new CnfXorSolver();
        for (int i = 0; i < 24; i++) {
            c.due("addClause(1, 0)", x.addClause(1, 0), i);
        }
        x.removeConstraint(5);
        c.due("addClause(1, 0) after a removal", x.addClause(1, 0), 23);
    }

    @Sentence(of = "Promise 10", says = "Throws `IllegalArgumentException` if p or n is out of range,")
    static void clauseOutOfRange(Check c) {
        CnfXorSolver x = new CnfXorSolver();
        for (int set : NO_SETS) {
            c.isBadArgument("addClause(" + set + ", 0)", () -> x.addClause(set, 0));
            c.isBadArgument("addClause(0, " + set + ")", () -> x.addClause(0, set));
        }
        c.isBadArgument("addClause(-256, 255)", () -> x.addClause(-256, 255));
        c.due("constraintCount()", x.constraintCount(), 0);
    }

    @Sentence(of = "Promise 10", says = "or both sets have a variable in common")
    static void clauseWithCommonVariable(Check c) {
        CnfXorSolver x = new CnfXorSolver();
        for (int v = 0; v < 8; v++) {
            int bit = 1 << v;
            c.isBadArgument("addClause(" + bit + ", " + bit + ")", () -> x.addClause(bit, bit));
        }
        c.isBadArgument("addClause(255, 255)", () -> x.addClause(255, 255));
        c.isBadArgument("addClause(129, 254)", () -> x.addClause(129, 254));
        c.due("addClause(1, 254)", x.addClause(1, 254), 0);
    }

    @Sentence(of = "Promise 10", says = "Throws `IllegalStateException` if there are 24 constraints")
    static void clauseToFull(Check c) {
        CnfXorSolver x = Calls.loaded("a;".repeat(23));
        c.due("addClause(2, 0) to 23", x.addClause(2, 0), 23);
        c.isBadState("addClause(2, 0) to 24", () -> x.addClause(2, 0));
        c.isBadState("addClause(0, 0) to 24", () -> x.addClause(0, 0));
        c.due("constraintCount()", x.constraintCount(), 24);
        c.due("modelCount()", x.modelCount(), 64);
    }

    // ---- promise 11

    @Sentence(of = "Promise 11", says = "Adds a parity at the end of the formula.")
    static void addsParity(Check c) {
        CnfXorSolver x = Calls.loaded("a;=1b;");
        x.addParity(12, 1);
        c.due("constraintCount()", x.constraintCount(), 3);
        constraint(c, x, 0, false, 1, 0);
        constraint(c, x, 1, true, 2, 1);
        constraint(c, x, 2, true, 12, 1);
    }

    @Sentence(of = "Promise 11", says = "`m`: set M, 0 to 255 - `bit`: 0 or 1")
    static void paritySetAndBit(Check c) {
        CnfXorSolver x = new CnfXorSolver();
        c.due("addParity(0, 0)", x.addParity(0, 0), 0);
        c.due("addParity(255, 1)", x.addParity(255, 1), 1);
        c.due("addParity(255, 0)", x.addParity(255, 0), 2);
        c.due("addParity(0, 1)", x.addParity(0, 1), 3);
        constraint(c, x, 0, true, 0, 0);
        constraint(c, x, 1, true, 255, 1);
        constraint(c, x, 2, true, 255, 0);
        constraint(c, x, 3, true, 0, 1);
    }

    @Sentence(of = "Promise 11", says = "Returns the number of the parity.")
    static void parityNumber(Check c) {
        CnfXorSolver x = new CnfXorSolver();
        for (int i = 0; i < 24; i++) {
            c.due("addParity(1, 0)", x.addParity(1, 0), i);
        }
        x.removeConstraint(23);
        c.due("addParity(1, 0) after a removal", x.addParity(1, 0), 23);
    }

    @Sentence(of = "Promise 11", says = "Throws `IllegalArgumentException` if m or bit is out of range")
    static void parityOutOfRange(Check c) {
        CnfXorSolver x = new CnfXorSolver();
        for (int set : NO_SETS) {
            c.isBadArgument("addParity(" + set + ", 1)", () -> x.addParity(set, 1));
        }
        for (int bit : NO_BITS) {
            c.isBadArgument("addParity(1, " + bit + ")", () -> x.addParity(1, bit));
        }
        c.due("constraintCount()", x.constraintCount(), 0);
    }

    @Sentence(of = "Promise 11", says = "Throws `IllegalStateException` if there are 24 constraints")
    static void parityToFull(Check c) {
        CnfXorSolver x = Calls.loaded("a;".repeat(23));
        c.due("addParity(2, 1) to 23", x.addParity(2, 1), 23);
        c.isBadState("addParity(2, 1) to 24", () -> x.addParity(2, 1));
        c.isBadState("addParity(0, 0) to 24", () -> x.addParity(0, 0));
        c.due("constraintCount()", x.constraintCount(), 24);
    }

    // ---- promise 12

    @Sentence(of = "Promise 12", says = "Removes a constraint.")
    static void removes(Check c) {
        CnfXorSolver x = Calls.loaded("a;=1b;C;");
        x.removeConstraint(1);
        c.due("modelCount() without the parity", x.modelCount(), 64);
        c.due("value(1)", x.value(1), CnfXorSolver.UNASSIGNED);
        x.removeConstraint(1);
        x.removeConstraint(0);
        c.due("modelCount() of none", x.modelCount(), 256);
    }

    @Sentence(of = "Promise 12", says = "The numbers of the constraints behind it become smaller by 1.")
    static void numbersBecomeSmaller(Check c) {
        CnfXorSolver first = Calls.loaded("a;=1b;C;");
        first.removeConstraint(0);
        constraint(c, first, 0, true, 2, 1);
        constraint(c, first, 1, false, 0, 4);
        c.isBadIndex("variables(2)", () -> first.variables(2));
        CnfXorSolver middle = Calls.loaded("a;=1b;C;");
        middle.removeConstraint(1);
        constraint(c, middle, 0, false, 1, 0);
        constraint(c, middle, 1, false, 0, 4);
        CnfXorSolver last = Calls.loaded("a;=1b;C;");
        last.removeConstraint(2);
        constraint(c, last, 0, false, 1, 0);
        constraint(c, last, 1, true, 2, 1);
        CnfXorSolver full = Calls.loaded("ab;".repeat(22) + "c;D;");
        full.removeConstraint(0);
        constraint(c, full, 22, false, 0, 8);
        c.due("reason(3)", full.reason(3), 22);
    }

    @Sentence(of = "Promise 12", says = "`i`: constraint Returns the number of constraints then.")
    static void removeReturns(Check c) {
        CnfXorSolver x = Calls.full();
        for (int left = 23; left >= 0; left--) {
            c.due("removeConstraint(0)", x.removeConstraint(0), left);
        }
    }

    @Sentence(of = "Promise 12", says = "Throws `IndexOutOfBoundsException` if there is no such constraint")
    static void removeNone(Check c) {
        CnfXorSolver x = Calls.loaded("a;=1b;C;");
        for (int i : NO_CONSTRAINTS_OF_THREE) {
            c.isBadIndex("removeConstraint(" + i + ")", () -> x.removeConstraint(i));
        }
        c.due("constraintCount()", x.constraintCount(), 3);
        c.isBadIndex("removeConstraint(0) of none", () -> new CnfXorSolver().removeConstraint(0));
        c.isBadIndex("removeConstraint(24) of 24", () -> Calls.full().removeConstraint(24));
    }

    // ---- promise 13

    @Sentence(of = "Promise 13", says = "Adds the resolvent of two clauses at the end of the formula: its set P consists of "
            + "all variables of both sets P except v,")
    static void resolventP(Check c) {
        CnfXorSolver x = Calls.loaded("abc;Acd;");
        x.resolve(0, 1, 0);
        constraint(c, x, 2, false, 14, 0);
        CnfXorSolver empty = Calls.loaded("h;H;");
        empty.resolve(0, 1, 7);
        constraint(c, empty, 2, false, 0, 0);
        CnfXorSolver most = Calls.loaded("abcdefgh;bcdefghA;");
        most.resolve(0, 1, 0);
        constraint(c, most, 2, false, 254, 0);
    }

    @Sentence(of = "Promise 13", says = "and its set N of all variables of both sets N except v.")
    static void resolventN(Check c) {
        CnfXorSolver x = Calls.loaded("aBC;ACD;");
        x.resolve(0, 1, 0);
        constraint(c, x, 2, false, 0, 14);
        CnfXorSolver most = Calls.loaded("ABCDEFGh;ABCDEFGH;");
        most.resolve(0, 1, 7);
        constraint(c, most, 2, false, 0, 127);
    }

    @Sentence(of = "Promise 13", says = "`i`: clause with v in its set P - `j`: clause with v in its set N - `v`: variable")
    static void clausesOfResolvent(Check c) {
        for (int v = 0; v < 8; v++) {
            CnfXorSolver x = new CnfXorSolver();
            x.addClause(0, 1 << v);
            x.addClause(1 << v, 0);
            int at = v;
            c.isBadState("resolve(0, 1, " + v + ")", () -> x.resolve(0, 1, at));
            c.due("resolve(1, 0, " + v + ")", x.resolve(1, 0, v), 2);
        }
    }

    @Sentence(of = "Promise 13", says = "Returns the number of the new clause.")
    static void resolventNumber(Check c) {
        CnfXorSolver x = Calls.loaded("a;A;");
        for (int i = 2; i < 24; i++) {
            c.due("resolve(0, 1, 0)", x.resolve(0, 1, 0), i);
        }
    }

    @Sentence(of = "Promise 13", says = "Throws `IndexOutOfBoundsException` if i or j is not a constraint,")
    static void resolveNoConstraint(Check c) {
        CnfXorSolver x = Calls.loaded("a;A;=1b;");
        for (int i : NO_CONSTRAINTS_OF_THREE) {
            c.isBadIndex("resolve(" + i + ", 1, 0)", () -> x.resolve(i, 1, 0));
            c.isBadIndex("resolve(0, " + i + ", 0)", () -> x.resolve(0, i, 0));
        }
        c.isBadIndex("resolve(0, 0, 0) of none", () -> new CnfXorSolver().resolve(0, 0, 0));
        c.due("constraintCount()", x.constraintCount(), 3);
    }

    @Sentence(of = "Promise 13", says = "or v is not 0 to 7")
    static void resolveNoVariable(Check c) {
        CnfXorSolver x = Calls.loaded("a;A;h;H;");
        for (int v : NO_VARIABLES) {
            c.isBadIndex("resolve(0, 1, " + v + ")", () -> x.resolve(0, 1, v));
            c.isBadIndex("resolve(2, 3, " + v + ")", () -> x.resolve(2, 3, v));
        }
        c.due("resolve(2, 3, 7)", x.resolve(2, 3, 7), 4);
    }

    @Sentence(of = "Promise 13", says = "Throws `IllegalStateException` if i or j is a parity,")
    static void resolveParity(Check c) {
        CnfXorSolver x = Calls.loaded("a;A;=1a;=0a;");
        c.isBadState("resolve(2, 1, 0)", () -> x.resolve(2, 1, 0));
        c.isBadState("resolve(0, 2, 0)", () -> x.resolve(0, 2, 0));
        c.isBadState("resolve(0, 3, 0)", () -> x.resolve(0, 3, 0));
        c.isBadState("resolve(3, 2, 0)", () -> x.resolve(3, 2, 0));
        c.due("constraintCount()", x.constraintCount(), 4);
    }

    @Sentence(of = "Promise 13", says = "v is not in the sets as required,")
    static void resolveWrongVariable(Check c) {
        CnfXorSolver x = Calls.loaded("aB;Ac;ac;AB;");
        c.isBadState("resolve(0, 1, 7): in neither", () -> x.resolve(0, 1, 7));
        c.isBadState("resolve(0, 1, 1): in N of the first", () -> x.resolve(0, 1, 1));
        c.isBadState("resolve(0, 1, 2): in P of the second", () -> x.resolve(0, 1, 2));
        c.isBadState("resolve(0, 2, 0): in P of both", () -> x.resolve(0, 2, 0));
        c.isBadState("resolve(1, 3, 0): in N of both", () -> x.resolve(1, 3, 0));
        c.isBadState("resolve(1, 0, 0): the wrong way round", () -> x.resolve(1, 0, 0));
        c.isBadState("resolve(0, 0, 0): the same clause", () -> x.resolve(0, 0, 0));
        c.due("resolve(0, 1, 0)", x.resolve(0, 1, 0), 4);
    }

    @Sentence(of = "Promise 13", says = "the sets P and N of the result would have a variable in common,")
    static void resolventWithCommonVariable(Check c) {
        CnfXorSolver x = Calls.loaded("ab;AB;aC;Ac;aH;Ah;AC;");
        c.isBadState("resolve(0, 1, 0): b and B", () -> x.resolve(0, 1, 0));
        c.isBadState("resolve(0, 1, 1): a and A", () -> x.resolve(0, 1, 1));
        c.isBadState("resolve(2, 3, 0): C and c", () -> x.resolve(2, 3, 0));
        c.isBadState("resolve(4, 5, 0): H and h", () -> x.resolve(4, 5, 0));
        c.due("constraintCount()", x.constraintCount(), 7);
        c.due("resolve(2, 6, 0): C twice", x.resolve(2, 6, 0), 7);
    }

    @Sentence(of = "Promise 13", says = "or there are 24 constraints")
    static void resolveToFull(Check c) {
        CnfXorSolver x = Calls.loaded("a;A;" + "b;".repeat(21));
        c.due("resolve(0, 1, 0) to 23", x.resolve(0, 1, 0), 23);
        c.isBadState("resolve(0, 1, 0) to 24", () -> x.resolve(0, 1, 0));
        c.due("constraintCount()", x.constraintCount(), 24);
    }

    // ---- promise 14

    @Sentence(of = "Promise 14", says = "Adds the sum of two parities at the end of the formula: its set consists of the "
            + "variables that are in exactly one of both sets,")
    static void setOfSum(Check c) {
        CnfXorSolver x = Calls.loaded("=0abh;=0bcg;=0abcdefgh;");
        x.sum(0, 1);
        c.due("variables(3)", x.variables(3), 1 + 4 + 64 + 128);
        x.sum(2, 0);
        c.due("variables(4)", x.variables(4), 255 - 131);
        c.due("isParity(4)", x.isParity(4), true);
    }

    @Sentence(of = "Promise 14", says = "and its bit is 1 if exactly one of both bits is 1.")
    static void bitOfSum(Check c) {
        for (int k = 0; k < 4; k++) {
            CnfXorSolver x = Calls.loaded("=" + k % 2 + "ab;=" + k / 2 + "bc;");
            x.sum(0, 1);
            c.due("negated(2) of " + k % 2 + " and " + k / 2, x.negated(2), k == 1 || k == 2 ? 1 : 0);
        }
    }

    @Sentence(of = "Promise 14", says = "`i`: parity - `j`: parity (it may be equal to i)")
    static void sumWithItself(Check c) {
        CnfXorSolver x = Calls.loaded("=1abcdefgh;=0a;");
        c.due("sum(0, 0)", x.sum(0, 0), 2);
        constraint(c, x, 2, true, 0, 0);
        c.due("sum(1, 1)", x.sum(1, 1), 3);
        constraint(c, x, 3, true, 0, 0);
        c.due("conflict()", x.conflict(), CnfXorSolver.NONE);
    }

    @Sentence(of = "Promise 14", says = "Returns the number of the new parity.")
    static void sumNumber(Check c) {
        CnfXorSolver x = Calls.loaded("=1a;");
        for (int i = 1; i < 24; i++) {
            c.due("sum(0, 0)", x.sum(0, 0), i);
        }
    }

    @Sentence(of = "Promise 14", says = "Throws `IndexOutOfBoundsException` if i or j is not a constraint")
    static void sumNoConstraint(Check c) {
        CnfXorSolver x = Calls.loaded("=1a;=1b;c;");
        for (int i : NO_CONSTRAINTS_OF_THREE) {
            c.isBadIndex("sum(" + i + ", 1)", () -> x.sum(i, 1));
            c.isBadIndex("sum(0, " + i + ")", () -> x.sum(0, i));
        }
        c.isBadIndex("sum(0, 0) of none", () -> new CnfXorSolver().sum(0, 0));
        c.due("constraintCount()", x.constraintCount(), 3);
    }

    @Sentence(of = "Promise 14", says = "Throws `IllegalStateException` if i or j is a clause,")
    static void sumOfClause(Check c) {
        CnfXorSolver x = Calls.loaded("=1a;b;C;");
        c.isBadState("sum(0, 1)", () -> x.sum(0, 1));
        c.isBadState("sum(1, 0)", () -> x.sum(1, 0));
        c.isBadState("sum(1, 2)", () -> x.sum(1, 2));
        c.isBadState("sum(2, 2)", () -> x.sum(2, 2));
        c.due("constraintCount()", x.constraintCount(), 3);
    }

    @Sentence(of = "Promise 14", says = "or there are 24 constraints")
    static void sumToFull(Check c) {
        CnfXorSolver x = Calls.loaded("=0a;" + "b;".repeat(22));
        c.due("sum(0, 0) to 23", x.sum(0, 0), 23);
        c.isBadState("sum(0, 0) to 24", () -> x.sum(0, 0));
        c.due("constraintCount()", x.constraintCount(), 24);
    }

    // ---- promise 15

    @Sentence(of = "Promise 15", says = "Adds a decision at the end of the list.")
    static void addsDecision(Check c) {
        CnfXorSolver x = new CnfXorSolver();
        x.decide(14);
        x.decide(3);
        x.decide(8);
        x.backtrack(2);
        c.due("trailLiteral(0)", x.trailLiteral(0), 14);
        c.due("trailLiteral(1)", x.trailLiteral(1), 3);
        c.due("level()", x.level(), 2);
        c.due("value(4)", x.value(4), CnfXorSolver.UNASSIGNED);
    }

    @Sentence(of = "Promise 15", says = "`literal`: literal, 0 to 15")
    static void literalOfDecision(Check c) {
        for (int literal = 0; literal < 16; literal++) {
            CnfXorSolver x = new CnfXorSolver();
            c.due("decide(" + literal + ")", x.decide(literal), 1);
            c.due("trailLiteral(0)", x.trailLiteral(0), literal);
        }
    }

    @Sentence(of = "Promise 15", says = "Returns the number of assigned variables then.")
    static void decideReturns(Check c) {
        CnfXorSolver none = new CnfXorSolver();
        c.due("decide(0) without propagation", none.decide(0), 1);
        CnfXorSolver all = Calls.loaded("Ab;Bc;Cd;De;Ef;Fg;Gh;");
        c.due("decide(0) that propagates all", all.decide(0), 8);
        CnfXorSolver zero = Calls.loaded("gh;F;");
        c.due("decide(13), one of level 0 counts", zero.decide(13), 3);
        CnfXorSolver conflict = Calls.loaded("Ab;AB;Ac;");
        c.due("decide(0) with a conflict", conflict.decide(0), 2);
    }

    @Sentence(of = "Promise 15", says = "Throws `IndexOutOfBoundsException` if literal is not 0 to 15")
    static void decideNoLiteral(Check c) {
        CnfXorSolver x = new CnfXorSolver();
        for (int literal : new int[] {-1, -2, 16, 17, 32, 64, 256, Integer.MIN_VALUE, Integer.MAX_VALUE}) {
            c.isBadIndex("decide(" + literal + ")", () -> x.decide(literal));
        }
        c.due("level()", x.level(), 0);
    }

    @Sentence(of = "Promise 15", says = "Throws `IllegalStateException` if there is a conflict,")
    static void decideWithConflict(Check c) {
        CnfXorSolver x = Calls.loaded("a;A;");
        c.isBadState("decide(2) with a conflict at level 0", () -> x.decide(2));
        CnfXorSolver one = Calls.loaded("Ab;AB;");
        one.decide(0);
        c.isBadState("decide(4) with a conflict at level 1", () -> one.decide(4));
        c.due("level()", one.level(), 1);
        one.removeConstraint(1);
        c.due("decide(4) without the conflict", one.decide(4), 3);
    }

    @Sentence(of = "Promise 15", says = "or the variable of the literal is assigned")
    static void decideAssigned(Check c) {
        CnfXorSolver x = Calls.loaded("h;Ab;");
        x.decide(0);
        for (int literal : new int[] {0, 1, 2, 3, 14, 15}) {
            c.isBadState("decide(" + literal + ")", () -> x.decide(literal));
        }
        c.due("level()", x.level(), 1);
        c.due("decide(5)", x.decide(5), 4);
    }

    // ---- promise 16

    @Sentence(of = "Promise 16", says = "Removes all decisions but the first ones.")
    static void backtracks(Check c) {
        CnfXorSolver x = new CnfXorSolver();
        for (int v = 7; v >= 0; v--) {
            x.decide(2 * v);
        }
        x.backtrack(1);
        c.due("level()", x.level(), 1);
        c.due("value(7)", x.value(7), CnfXorSolver.TRUE);
        c.due("value(6)", x.value(6), CnfXorSolver.UNASSIGNED);
        c.due("decide(13)", x.decide(13), 2);
    }

    @Sentence(of = "Promise 16", says = "`level`: how many decisions stay, 0 to the present level")
    static void howManyStay(Check c) {
        for (int present = 0; present <= 8; present++) {
            for (int level = 0; level <= present; level++) {
                CnfXorSolver x = new CnfXorSolver();
                for (int v = 0; v < present; v++) {
                    x.decide(2 * v);
                }
                c.due("backtrack(" + level + ") from " + present, x.backtrack(level), level);
                c.due("level()", x.level(), level);
            }
        }
    }

    @Sentence(of = "Promise 16", says = "Returns the number of assigned variables then.")
    static void backtrackReturns(Check c) {
        c.due("backtrack(0) of none", new CnfXorSolver().backtrack(0), 0);
        CnfXorSolver x = Calls.loaded("h;Ab;Cd;");
        x.decide(0);
        x.decide(4);
        c.due("backtrack(2)", x.backtrack(2), 5);
        c.due("backtrack(1)", x.backtrack(1), 3);
        c.due("backtrack(0)", x.backtrack(0), 1);
        c.due("backtrack(0) again", x.backtrack(0), 1);
        CnfXorSolver conflict = Calls.loaded("a;A;b;");
        c.due("backtrack(0) with a conflict", conflict.backtrack(0), 1);
    }

    @Sentence(of = "Promise 16", says = "Throws `IllegalArgumentException` if level is out of range")
    static void backtrackOutOfRange(Check c) {
        CnfXorSolver x = Calls.loaded("Ab;");
        c.isBadArgument("backtrack(1) at level 0", () -> x.backtrack(1));
        x.decide(0);
        for (int level : new int[] {-1, 2, 8, 9, 256, Integer.MIN_VALUE, Integer.MAX_VALUE}) {
            c.isBadArgument("backtrack(" + level + ") at level 1", () -> x.backtrack(level));
        }
        c.due("level()", x.level(), 1);
    }
}
