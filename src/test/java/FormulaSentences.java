/** The sentences of "What it is", of FORMULAS and of promises 1 and 6 to 9. */
final class FormulaSentences {
    private static final int NONE = CnfXorSolver.NONE;
    private static final int[] NO_CONSTRAINTS_OF_TWO = {-1, 2, 24, 32, 256, 65536, Integer.MIN_VALUE, Integer.MAX_VALUE};

    private FormulaSentences() {
    }

    @Sentence(of = "What it is", says = "A solver for formulas of clauses and parity constraints (CNF-XOR): unit propagation "
            + "with reasons, conflict analysis with learned clauses and backjumping, Gaussian elimination of the parities, "
            + "counting of models, implied clauses and parities, unsatisfiable cores, and proofs by resolution and addition.")
    static void whatItIs(Check c) {
        CnfXorSolver x = Calls.loaded("ab;aB;=1bc;=1bd;");
        c.due("decide(1)", x.decide(1), 2);
        c.due("reason(1)", x.reason(1), 0);
        c.due("learn()", x.learn(), 0);
        c.due("eliminatedRow(1)", x.eliminatedRow(1), 12);
        c.due("modelCount()", x.modelCount(), 32);
        c.due("impliesClause(1, 0)", x.impliesClause(1, 0), true);
        c.due("impliesParity(12, 0)", x.impliesParity(12, 0), true);
        c.due("core()", x.core(), NONE);
        c.due("resolve(0, 1, 1)", x.resolve(0, 1, 1), 5);
        c.due("sum(2, 3)", x.sum(2, 3), 6);
    }

    @Sentence(of = "What it is", says = "An object is used for at most 512 calls after it has been made; what later calls "
            + "answer is free.")
    static void fiveHundredAndTwelveCalls(Check c) {
        CnfXorSolver x = new CnfXorSolver();
        for (int call = 0; call < 512; call += 4) {
            c.due("call " + call + " addClause(1, 0)", x.addClause(1, 0), 0);
            c.due("call " + call + " decide(3)", x.decide(3), 2);
            c.due("call " + call + " backtrack(0)", x.backtrack(0), 1);
            c.due("call " + call + " removeConstraint(0)", x.removeConstraint(0), 0);
        }
        CnfXorSolver y = Calls.loaded("AB;Ab;aB;ab;");
        for (int call = 13; call < 512; call++) {
            c.due("call " + call + " solve()", y.solve(), -2);
        }
        CnfXorSolver z = new CnfXorSolver();
        for (int call = 0; call < 498; call++) {
            z.backtrack(0);
        }
        for (int left = 13; left >= 0; left--) {
            c.due("undo() after 498 actions", z.undo(), left);
        }
    }

    @Sentence(of = "FORMULAS", says = "There are eight variables, 0 to 7, which can be true or false.")
    static void eightVariables(Check c) {
        CnfXorSolver x = new CnfXorSolver();
        c.due("decide(1)", x.decide(1), 1);
        c.due("decide(14)", x.decide(14), 2);
        c.due("value(0)", x.value(0), CnfXorSolver.FALSE);
        c.due("value(7)", x.value(7), CnfXorSolver.TRUE);
        c.isBadIndex("value(8)", () -> x.value(8));
        c.isBadIndex("value(-1)", () -> x.value(-1));
    }

    @Sentence(of = "FORMULAS", says = "A set of variables is an int from 0 to 255 in which bit v stands for variable v.")
    static void setsOfVariables(Check c) {
        for (int v = 0; v < 8; v++) {
            CnfXorSolver x = new CnfXorSolver();
            x.addClause(1 << v, 0);
            for (int w = 0; w < 8; w++) {
                c.due("value(" + w + ") of the clause " + (1 << v), x.value(w), w == v ? 1 : CnfXorSolver.UNASSIGNED);
            }
        }
        CnfXorSolver x = new CnfXorSolver();
        c.due("addClause(255, 0)", x.addClause(255, 0), 0);
        c.due("addParity(255, 0)", x.addParity(255, 0), 1);
        c.due("addParity(0, 0)", x.addParity(0, 0), 2);
        c.isBadArgument("addParity(256, 0)", () -> x.addParity(256, 0));
        c.isBadArgument("addParity(-1, 0)", () -> x.addParity(-1, 0));
    }

    @Sentence(of = "FORMULAS", says = "A formula is a list of at most 24 constraints,")
    static void atMostTwentyFour(Check c) {
        CnfXorSolver x = new CnfXorSolver();
        for (int i = 0; i < 24; i++) {
            c.due("constraint " + i, i % 2 == 0 ? x.addClause(1, 2) : x.addParity(4, 1), i);
        }
        c.due("constraintCount()", x.constraintCount(), 24);
        c.isBadState("addClause(1, 2) to 24", () -> x.addClause(1, 2));
        c.isBadState("addParity(4, 1) to 24", () -> x.addParity(4, 1));
        c.due("variables(23)", x.variables(23), 4);
        c.isBadIndex("variables(24)", () -> x.variables(24));
    }

    @Sentence(of = "FORMULAS", says = "numbered from 0 in the order in which they were added.")
    static void numberedFromZero(Check c) {
        CnfXorSolver x = new CnfXorSolver();
        for (int i = 0; i < 24; i++) {
            c.due("addClause(" + (i + 1) + ", 128)", x.addClause(i + 1, 128), i);
        }
        for (int i = 0; i < 24; i++) {
            c.due("variables(" + i + ")", x.variables(i), i + 1);
        }
    }

    @Sentence(of = "FORMULAS", says = "A constraint is a clause or a parity.")
    static void clauseOrParity(Check c) {
        CnfXorSolver x = new CnfXorSolver();
        x.addClause(1, 0);
        x.addParity(1, 0);
        c.due("modelCount() of a and =0a", x.modelCount(), 0);
        c.due("isParity(0)", x.isParity(0), false);
        c.due("isParity(1)", x.isParity(1), true);
    }

    @Sentence(of = "FORMULAS", says = "A clause consists of a set P of variables and a set N of variables that have no "
            + "variable in common.")
    static void setsWithoutCommonVariable(Check c) {
        CnfXorSolver x = new CnfXorSolver();
        for (int v = 0; v < 8; v++) {
            int bit = 1 << v;
            c.due("addClause(" + bit + ", " + (255 - bit) + ")", x.addClause(bit, 255 - bit), v);
            c.due("variables(" + v + ")", x.variables(v), bit);
            c.due("negated(" + v + ")", x.negated(v), 255 - bit);
            c.isBadArgument("addClause(" + bit + ", " + bit + ")", () -> x.addClause(bit, bit));
            c.isBadArgument("addClause(255, " + bit + ")", () -> x.addClause(255, bit));
        }
    }

    private static void models(Check c, String call, CnfXorSolver x, int[] due) {
        for (int i = 0; i < due.length; i++) {
            c.due("model(" + i + ") of " + call, x.model(i), due[i]);
        }
        c.due("modelCount() of " + call, x.modelCount(), due.length);
    }

    @Sentence(of = "FORMULAS", says = "It is satisfied if some variable of P is true or some variable of N is false.")
    static void satisfiedClause(Check c) {
        String others = ";D;E;F;G;H;";
        models(c, "aB", Calls.loaded("aB" + others), new int[] {0, 1, 3, 4, 5, 7});
        models(c, "abc", Calls.loaded("abc" + others), new int[] {1, 2, 3, 4, 5, 6, 7});
        models(c, "ABC", Calls.loaded("ABC" + others), new int[] {0, 1, 2, 3, 4, 5, 6});
        models(c, "H", Calls.loaded("H;A;B;c;D;E;F;G;"), new int[] {4});
        models(c, "aBCDEFGH", Calls.loaded("aBCDEFGH;b;c;d;e;f;g;h;"), new int[] {255});
    }

    @Sentence(of = "FORMULAS", says = "The size of a clause is the number of variables in P and N.")
    static void sizeOfClause(Check c) {
        CnfXorSolver x = new CnfXorSolver();
        x.addClause(15, 240);
        int[] literals = {1, 3, 5, 8, 10, 12, 14};
        for (int i = 0; i < 7; i++) {
            c.due("value(3) before decision " + i, x.value(3), CnfXorSolver.UNASSIGNED);
            x.decide(literals[i]);
        }
        c.due("value(3) with seven of eight assigned", x.value(3), CnfXorSolver.TRUE);
        CnfXorSolver one = new CnfXorSolver();
        one.addClause(0, 128);
        c.due("value(7) of a clause of size 1", one.value(7), CnfXorSolver.FALSE);
    }

    @Sentence(of = "FORMULAS", says = "The clause with empty sets is never satisfied.")
    static void emptyClause(Check c) {
        CnfXorSolver x = new CnfXorSolver();
        x.addClause(0, 0);
        c.due("conflict()", x.conflict(), 0);
        c.due("modelCount()", x.modelCount(), 0);
        c.due("core()", x.core(), 1);
        c.due("solve()", x.solve(), -1);
        c.due("impliesClause(0, 0) of an empty formula", new CnfXorSolver().impliesClause(0, 0), false);
    }

    @Sentence(of = "FORMULAS", says = "A parity consists of a set M of variables and a bit, 0 or 1.")
    static void setAndBit(Check c) {
        CnfXorSolver x = new CnfXorSolver();
        for (int bit = 0; bit < 2; bit++) {
            c.due("addParity(129, " + bit + ")", x.addParity(129, bit), bit);
            c.due("variables(" + bit + ")", x.variables(bit), 129);
            c.due("negated(" + bit + ")", x.negated(bit), bit);
        }
        c.isBadArgument("addParity(129, 2)", () -> x.addParity(129, 2));
        c.isBadArgument("addParity(129, -1)", () -> x.addParity(129, -1));
    }

    /** The models of the parity of these variables with this bit. */
    private static void modelsOfParity(Check c, int set, int bit) {
        CnfXorSolver x = new CnfXorSolver();
        x.addParity(set, bit);
        int found = 0;
        for (int a = 0; a < 256; a++) {
            if (Integer.bitCount(a & set) % 2 == bit) {
                c.due("model(" + found + ") of addParity(" + set + ", " + bit + ")", x.model(found), a);
                found++;
            }
        }
        c.due("modelCount() of addParity(" + set + ", " + bit + ")", x.modelCount(), found);
    }

    @Sentence(of = "FORMULAS", says = "It is satisfied if the number of true variables of M is even and the bit is 0,")
    static void satisfiedWithBitZero(Check c) {
        modelsOfParity(c, 255, 0);
        modelsOfParity(c, 128, 0);
        modelsOfParity(c, 0, 0);
    }

    @Sentence(of = "FORMULAS", says = "or odd and the bit is 1.")
    static void satisfiedWithBitOne(Check c) {
        modelsOfParity(c, 255, 1);
        modelsOfParity(c, 7, 1);
        modelsOfParity(c, 0, 1);
    }

    @Sentence(of = "FORMULAS", says = "The size of a parity is the number of variables in M.")
    static void sizeOfParity(Check c) {
        CnfXorSolver x = new CnfXorSolver();
        x.addParity(255, 1);
        for (int v = 7; v > 0; v--) {
            c.due("value(0) before the decision of " + v, x.value(0), CnfXorSolver.UNASSIGNED);
            x.decide(2 * v);
        }
        c.due("value(0) with seven of eight assigned", x.value(0), CnfXorSolver.FALSE);
        CnfXorSolver one = new CnfXorSolver();
        one.addParity(128, 1);
        c.due("value(7) of a parity of size 1", one.value(7), CnfXorSolver.TRUE);
    }

    @Sentence(of = "FORMULAS", says = "A literal is a variable with a sign: literal 2 * v means that v is true, and literal "
            + "2 * v + 1 means that v is false (0 to 15).")
    static void literals(Check c) {
        for (int literal = 0; literal < 16; literal++) {
            CnfXorSolver x = new CnfXorSolver();
            x.decide(literal);
            c.due("value of decide(" + literal + ")", x.value(literal / 2), 1 - literal % 2);
            c.due("trailLiteral(0) of decide(" + literal + ")", x.trailLiteral(0), literal);
        }
        CnfXorSolver x = new CnfXorSolver();
        c.isBadIndex("decide(16)", () -> x.decide(16));
        c.isBadIndex("decide(-1)", () -> x.decide(-1));
    }

    @Sentence(of = "FORMULAS", says = "A model is an assignment of true or false to all eight variables that satisfies all "
            + "constraints.")
    static void modelsSatisfyAll(Check c) {
        c.due("modelCount() of no constraints", new CnfXorSolver().modelCount(), 256);
        CnfXorSolver x = Calls.loaded("ab;".repeat(23) + "h;");
        c.due("modelCount(), 24 constraints", x.modelCount(), 96);
        c.due("model(0): the last constraint counts", x.model(0), 129);
        c.due("modelCount(), the first constraint counts", Calls.loaded("h;" + "ab;".repeat(23)).modelCount(), 96);
    }

    @Sentence(of = "FORMULAS", says = "The number of a model is the int whose bit v is 1 if v is true.")
    static void numbersOfModels(Check c) {
        for (int v = 0; v < 8; v++) {
            StringBuilder text = new StringBuilder();
            for (int w = 0; w < 8; w++) {
                text.append((char) ((w == v ? 'a' : 'A') + w)).append(';');
            }
            c.due("model(0) of " + text, Calls.loaded(text.toString()).model(0), 1 << v);
        }
        c.due("model(0), all false", Calls.loaded("A;B;C;D;E;F;G;H;").model(0), 0);
        c.due("model(0), all true", Calls.loaded("a;b;c;d;e;f;g;h;").model(0), 255);
    }

    @Sentence(of = "FORMULAS", says = "A formula is satisfiable if it has a model.")
    static void satisfiable(Check c) {
        c.due("core() of no constraints", new CnfXorSolver().core(), NONE);
        c.due("core() with model 0 alone", Calls.loaded("A;B;C;D;E;F;G;H;").core(), NONE);
        c.due("core() with model 255 alone", Calls.loaded("a;b;c;d;e;f;g;h;").core(), NONE);
        c.due("core() without a model", Calls.loaded("a;b;c;d;e;f;g;h;A;").core(), 257);
    }

    @Sentence(of = "FORMULAS", says = "It implies a constraint if each of its models satisfies that constraint.")
    static void implies(Check c) {
        CnfXorSolver all = new CnfXorSolver();
        c.due("255 of 256 models: impliesClause(255, 0)", all.impliesClause(255, 0), false);
        c.due("255 of 256 models: impliesClause(0, 255)", all.impliesClause(0, 255), false);
        c.due("all models: impliesParity(0, 0)", all.impliesParity(0, 0), true);
        all.addClause(255, 0);
        c.due("each of 255 models: impliesClause(255, 0)", all.impliesClause(255, 0), true);
        CnfXorSolver no = Calls.loaded("a;A;");
        c.due("no model: impliesClause(0, 0)", no.impliesClause(0, 0), true);
        c.due("no model: impliesParity(0, 1)", no.impliesParity(0, 1), true);
    }

    @Sentence(of = "Promise 1", says = "Creates a solver with an empty formula.")
    static void newSolver(Check c) {
        CnfXorSolver x = new CnfXorSolver();
        c.due("constraintCount()", x.constraintCount(), 0);
        c.isBadIndex("variables(0)", () -> x.variables(0));
        CnfXorSolver other = new CnfXorSolver();
        other.addClause(1, 0);
        c.due("constraintCount() beside another object", x.constraintCount(), 0);
        c.due("value(0) beside another object", x.value(0), CnfXorSolver.UNASSIGNED);
    }

    @Sentence(of = "Promise 6", says = "Returns the number of constraints.")
    static void constraintCount(Check c) {
        CnfXorSolver x = new CnfXorSolver();
        for (int i = 0; i <= 24; i++) {
            c.due("constraintCount()", x.constraintCount(), i);
            Check.outcome(() -> x.addClause(3, 0));
        }
        c.due("constraintCount() after 25 tries", x.constraintCount(), 24);
        x.removeConstraint(0);
        c.due("constraintCount() after a removal", x.constraintCount(), 23);
    }

    @Sentence(of = "Promise 7", says = "Tells what kind of constraint there is. - `i`: constraint Returns true for a parity, "
            + "false for a clause.")
    static void isParity(Check c) {
        CnfXorSolver x = new CnfXorSolver();
        x.addParity(0, 0);
        x.addClause(0, 255);
        x.addParity(255, 1);
        c.due("isParity(0), of size 0", x.isParity(0), true);
        c.due("isParity(1), all of N", x.isParity(1), false);
        c.due("isParity(2)", x.isParity(2), true);
        CnfXorSolver full = Calls.full();
        c.due("isParity(23)", full.isParity(23), false);
    }

    @Sentence(of = "Promise 7", says = "Throws `IndexOutOfBoundsException` if there is no such constraint")
    static void isParityOfNone(Check c) {
        CnfXorSolver x = Calls.loaded("a;=1b;");
        for (int i : NO_CONSTRAINTS_OF_TWO) {
            c.isBadIndex("isParity(" + i + ")", () -> x.isParity(i) ? 1 : 0);
        }
        c.isBadIndex("isParity(0) of none", () -> new CnfXorSolver().isParity(0) ? 1 : 0);
        c.isBadIndex("isParity(24) of 24", () -> Calls.full().isParity(24) ? 1 : 0);
    }

    @Sentence(of = "Promise 8", says = "Returns the set P of a clause or the set M of a parity. - `i`: constraint Returns "
            + "the set.")
    static void variables(Check c) {
        CnfXorSolver x = new CnfXorSolver();
        x.addClause(0, 255);
        x.addClause(255, 0);
        x.addParity(0, 1);
        x.addParity(255, 1);
        x.addClause(170, 85);
        int[] due = {0, 255, 0, 255, 170};
        for (int i = 0; i < 5; i++) {
            c.due("variables(" + i + ")", x.variables(i), due[i]);
        }
    }

    @Sentence(of = "Promise 8", says = "Throws `IndexOutOfBoundsException` if there is no such constraint")
    static void variablesOfNone(Check c) {
        CnfXorSolver x = Calls.loaded("a;=1b;");
        for (int i : NO_CONSTRAINTS_OF_TWO) {
            c.isBadIndex("variables(" + i + ")", () -> x.variables(i));
        }
        c.isBadIndex("variables(0) of none", () -> new CnfXorSolver().variables(0));
        c.isBadIndex("variables(24) of 24", () -> Calls.full().variables(24));
    }

    @Sentence(of = "Promise 9", says = "Returns the set N of a clause or the bit of a parity. - `i`: constraint Returns the "
            + "set or the bit.")
    static void negated(Check c) {
        CnfXorSolver x = new CnfXorSolver();
        x.addClause(0, 255);
        x.addClause(255, 0);
        x.addParity(0, 1);
        x.addParity(255, 0);
        x.addParity(1, 1);
        x.addClause(170, 85);
        int[] due = {255, 0, 1, 0, 1, 85};
        for (int i = 0; i < 6; i++) {
            c.due("negated(" + i + ")", x.negated(i), due[i]);
        }
    }

    @Sentence(of = "Promise 9", says = "Throws `IndexOutOfBoundsException` if there is no such constraint")
    static void negatedOfNone(Check c) {
        CnfXorSolver x = Calls.loaded("a;=1b;");
        for (int i : NO_CONSTRAINTS_OF_TWO) {
            c.isBadIndex("negated(" + i + ")", () -> x.negated(i));
        }
        c.isBadIndex("negated(0) of none", () -> new CnfXorSolver().negated(0));
        c.isBadIndex("negated(24) of 24", () -> Calls.full().negated(24));
    }
}
