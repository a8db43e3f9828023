/** The sentences of promises 25 to 29. */
final class ModelSentences {
    private static final int NONE = CnfXorSolver.NONE;
    private static final int[] NO_SETS = {-1, 256, 257, 511, 65536, Integer.MIN_VALUE, Integer.MAX_VALUE};
    private static final int[] NO_BITS = {-1, 2, 3, 256, Integer.MIN_VALUE, Integer.MAX_VALUE};

    private ModelSentences() {
    }

    @Sentence(of = "Promise 25", says = "Returns the number of models, 0 to 256.")
    static void numberOfModels(Check c) {
        c.due("modelCount() of no constraints", new CnfXorSolver().modelCount(), 256);
        c.due("modelCount() of a;A;", Calls.loaded("a;A;").modelCount(), 0);
        c.due("modelCount() of one model", Calls.loaded("a;B;c;D;e;F;g;H;").modelCount(), 1);
        c.due("modelCount() of model 0 alone", Calls.loaded("A;B;C;D;E;F;G;H;").modelCount(), 1);
        CnfXorSolver x = Calls.loaded("abcdefgh;");
        c.due("modelCount() of all but 0", x.modelCount(), 255);
        x.addClause(0, 255);
        c.due("modelCount() of all but 0 and 255", x.modelCount(), 254);
        x.removeConstraint(0);
        c.due("modelCount() of all but 255", x.modelCount(), 255);
        x.addParity(0, 1);
        c.due("modelCount() with the empty parity of bit 1", x.modelCount(), 0);
    }

    @Sentence(of = "Promise 25", says = "models; the decisions do not matter")
    static void decisionsDoNotMatter(Check c) {
        CnfXorSolver x = Calls.loaded("ab;aB;Ac;");
        x.decide(1);
        c.due("conflict()", x.conflict(), 1);
        c.due("modelCount()", x.modelCount(), 64);
        c.due("model(0)", x.model(0), 5);
        c.due("impliesClause(1, 0), against the decision", x.impliesClause(1, 0), true);
        c.due("impliesParity(1, 1), against the decision", x.impliesParity(1, 1), true);
        c.due("impliesClause(0, 1), the decision", x.impliesClause(0, 1), false);
        c.due("core()", x.core(), NONE);
    }

    @Sentence(of = "Promise 26", says = "Returns a model. - `i`: index of the model in ascending order of the numbers, from 0 "
            + "Returns its number;")
    static void modelsInOrder(Check c) {
        CnfXorSolver all = new CnfXorSolver();
        for (int i = 0; i < 256; i++) {
            c.due("model(" + i + ") of no constraints", all.model(i), i);
        }
        CnfXorSolver x = Calls.loaded("H;g;ab;C;D;E;F;");
        int[] models = {65, 66, 67};
        for (int i = 0; i < 3; i++) {
            c.due("model(" + i + ")", x.model(i), models[i]);
        }
        c.due("model(0), all true", Calls.loaded("a;b;c;d;e;f;g;h;").model(0), 255);
        c.due("model(0), all false", Calls.loaded("A;B;C;D;E;F;G;H;").model(0), 0);
    }

    @Sentence(of = "Promise 26", says = "NONE if there is no such model")
    static void noSuchModel(Check c) {
        CnfXorSolver all = new CnfXorSolver();
        c.due("model(255) of 256", all.model(255), 255);
        c.due("model(256) of 256", all.model(256), NONE);
        c.due("model(257) of 256", all.model(257), NONE);
        c.due("model(greatest)", all.model(Integer.MAX_VALUE), NONE);
        CnfXorSolver one = Calls.loaded("A;B;C;D;E;F;G;H;");
        c.due("model(1) of one", one.model(1), NONE);
        c.due("model(256) of one", one.model(256), NONE);
        c.due("model(0) of none", Calls.loaded("a;A;").model(0), NONE);
    }

    @Sentence(of = "Promise 26", says = "(also if i is negative).")
    static void negativeModel(Check c) {
        for (CnfXorSolver x : new CnfXorSolver[] {new CnfXorSolver(), Calls.loaded("ab;"), Calls.loaded("a;A;")}) {
            for (int i : new int[] {-1, -9, -256, Integer.MIN_VALUE}) {
                c.due("model(" + i + ")", x.model(i), NONE);
            }
        }
    }

    @Sentence(of = "Promise 27", says = "Tells whether the formula implies a clause.")
    static void impliesClause(Check c) {
        CnfXorSolver x = Calls.loaded("=1ab;Ac;Bc;");
        c.due("impliesClause(4, 0)", x.impliesClause(4, 0), true);
        c.due("impliesClause(3, 0)", x.impliesClause(3, 0), true);
        c.due("impliesClause(0, 3)", x.impliesClause(0, 3), true);
        c.due("impliesClause(5, 2)", x.impliesClause(5, 2), true);
        c.due("impliesClause(1, 0)", x.impliesClause(1, 0), false);
        c.due("impliesClause(1, 4)", x.impliesClause(1, 4), false);
        c.due("impliesClause(0, 4)", x.impliesClause(0, 4), false);
        c.due("the formula stays", x.constraintCount(), 3);
        c.due("of 24 constraints", Calls.full().impliesClause(1, 2), true);
    }

    @Sentence(of = "Promise 27", says = "`p`: set P, 0 to 255 - `n`: set N, 0 to 255")
    static void setsOfImpliedClause(Check c) {
        CnfXorSolver x = new CnfXorSolver();
        c.due("impliesClause(255, 0)", x.impliesClause(255, 0), false);
        c.due("impliesClause(0, 255)", x.impliesClause(0, 255), false);
        c.due("impliesClause(0, 0)", x.impliesClause(0, 0), false);
        c.due("impliesClause(255, 0) of h;", Calls.loaded("h;").impliesClause(255, 0), true);
        c.due("impliesClause(0, 255) of H;", Calls.loaded("H;").impliesClause(0, 255), true);
    }

    @Sentence(of = "Promise 27", says = "Returns true if it does.")
    static void everyModelSatisfiesClause(Check c) {
        CnfXorSolver one = Calls.loaded("A;B;C;D;E;F;G;h;");
        c.due("impliesClause(128, 127) of one model", one.impliesClause(128, 127), true);
        c.due("impliesClause(127, 128) of one model", one.impliesClause(127, 128), false);
        CnfXorSolver no = Calls.loaded("a;A;");
        c.due("impliesClause(0, 0) without a model", no.impliesClause(0, 0), true);
        c.due("impliesClause(2, 0) without a model", no.impliesClause(2, 0), true);
        CnfXorSolver first = Calls.loaded("bcdefghA;");
        c.due("only model 1 is missing: impliesClause(254, 1)", first.impliesClause(254, 1), true);
        c.due("only model 1 is missing: impliesClause(255, 0)", first.impliesClause(255, 0), false);
        c.due("only model 1 is missing: impliesClause(0, 255)", first.impliesClause(0, 255), false);
    }

    @Sentence(of = "Promise 27", says = "Throws `IllegalArgumentException` if p or n is out of range,")
    static void impliedClauseOutOfRange(Check c) {
        CnfXorSolver x = Calls.loaded("a;A;");
        for (int set : NO_SETS) {
            c.isBadArgument("impliesClause(" + set + ", 0)", () -> x.impliesClause(set, 0) ? 1 : 0);
            c.isBadArgument("impliesClause(0, " + set + ")", () -> x.impliesClause(0, set) ? 1 : 0);
        }
    }

    @Sentence(of = "Promise 27", says = "or both sets have a variable in common")
    static void impliedClauseWithCommonVariable(Check c) {
        CnfXorSolver x = Calls.loaded("ab;");
        for (int v = 0; v < 8; v++) {
            int bit = 1 << v;
            c.isBadArgument("impliesClause(" + bit + ", " + bit + ")", () -> x.impliesClause(bit, bit) ? 1 : 0);
        }
        c.isBadArgument("impliesClause(255, 128)", () -> x.impliesClause(255, 128) ? 1 : 0);
        c.due("impliesClause(3, 252)", x.impliesClause(3, 252), true);
    }

    @Sentence(of = "Promise 28", says = "Tells whether the formula implies a parity.")
    static void impliesParity(Check c) {
        CnfXorSolver x = Calls.loaded("ab;AB;=1bc;");
        c.due("impliesParity(3, 1): two clauses are a parity", x.impliesParity(3, 1), true);
        c.due("impliesParity(3, 0)", x.impliesParity(3, 0), false);
        c.due("impliesParity(5, 0): the sum", x.impliesParity(5, 0), true);
        c.due("impliesParity(5, 1)", x.impliesParity(5, 1), false);
        c.due("impliesParity(1, 1)", x.impliesParity(1, 1), false);
        c.due("impliesParity(1, 0)", x.impliesParity(1, 0), false);
        c.due("the formula stays", x.constraintCount(), 3);
        c.due("of 24 constraints", Calls.loaded("=1abcdefgh;" + "h;".repeat(23)).impliesParity(127, 0), true);
    }

    @Sentence(of = "Promise 28", says = "`m`: set M, 0 to 255 - `bit`: 0 or 1")
    static void setAndBitOfImpliedParity(Check c) {
        CnfXorSolver x = Calls.loaded("=1abcdefgh;");
        c.due("impliesParity(255, 1)", x.impliesParity(255, 1), true);
        c.due("impliesParity(255, 0)", x.impliesParity(255, 0), false);
        c.due("impliesParity(0, 0)", x.impliesParity(0, 0), true);
        c.due("impliesParity(0, 1)", x.impliesParity(0, 1), false);
    }

    @Sentence(of = "Promise 28", says = "Returns true if it does.")
    static void everyModelSatisfiesParity(Check c) {
        CnfXorSolver no = Calls.loaded("a;A;");
        c.due("impliesParity(0, 1) without a model", no.impliesParity(0, 1), true);
        c.due("impliesParity(2, 0) without a model", no.impliesParity(2, 0), true);
        c.due("impliesParity(2, 1) without a model", no.impliesParity(2, 1), true);
        CnfXorSolver one = Calls.loaded("A;B;C;D;E;F;G;h;");
        c.due("impliesParity(255, 1) of one model", one.impliesParity(255, 1), true);
        c.due("impliesParity(127, 0) of one model", one.impliesParity(127, 0), true);
        c.due("impliesParity(128, 0) of one model", one.impliesParity(128, 0), false);
        CnfXorSolver last = Calls.loaded("bC;cD;dE;eF;fG;gH;hB;aB;");
        c.due("three models: impliesParity(6, 0)", last.impliesParity(6, 0), true);
        c.due("three models: impliesParity(3, 0)", last.impliesParity(3, 0), false);
    }

    @Sentence(of = "Promise 28", says = "Throws `IllegalArgumentException` if m or bit is out of range")
    static void impliedParityOutOfRange(Check c) {
        CnfXorSolver x = Calls.loaded("a;A;");
        for (int set : NO_SETS) {
            c.isBadArgument("impliesParity(" + set + ", 0)", () -> x.impliesParity(set, 0) ? 1 : 0);
        }
        for (int bit : NO_BITS) {
            c.isBadArgument("impliesParity(1, " + bit + ")", () -> x.impliesParity(1, bit) ? 1 : 0);
        }
    }

    @Sentence(of = "Promise 29", says = "Finds an unsatisfiable core. It starts with the set of all constraints.")
    static void coreOfAll(Check c) {
        c.due("core() of clauses: all are needed", Calls.loaded("bcdefgh;Bcdefgh;Cdefgh;Defgh;Efgh;Fgh;Gh;H;").core(), 255);
        CnfXorSolver parities = new CnfXorSolver();
        for (int v = 0; v < 7; v++) {
            parities.addParity(3 << v, 0);
        }
        parities.addParity(129, 1);
        c.due("core() of parities: all are needed", parities.core(), 255);
        c.due("core() of the last two of 24", Calls.loaded("ab;".repeat(22) + "c;C;").core(), 3 << 22);
        c.due("core() of the first and the last", Calls.loaded("c;" + "ab;".repeat(22) + "C;").core(), 1 | 1 << 23);
    }

    @Sentence(of = "Promise 29", says = "Then, for each constraint in ascending order: if the constraints that are left "
            + "without it still have no model, it is removed from the set.")
    static void coreAscending(Check c) {
        c.due("core(): the first of two equal ones goes", Calls.loaded("a;a;A;").core(), 6);
        c.due("core(): the later core stays", Calls.loaded("a;A;b;B;").core(), 12);
        c.due("core(): the smaller one is not looked for", Calls.loaded("a;A;ab;aB;Ab;AB;").core(), 60);
        CnfXorSolver empty = Calls.loaded("a;A;");
        empty.addClause(0, 0);
        c.due("core(): the empty clause is last", empty.core(), 4);
        empty.addClause(2, 0);
        c.due("core(): a satisfiable rest goes", empty.core(), 4);
    }

    @Sentence(of = "Promise 29", says = "Returns the set that is left, as a bit set of constraints;")
    static void coreAsBits(Check c) {
        CnfXorSolver first = new CnfXorSolver();
        first.addClause(0, 0);
        c.due("core() of constraint 0", first.core(), 1);
        for (int i = 1; i < 24; i++) {
            first.addClause(1, 0);
        }
        c.due("core() of constraint 0 of 24", first.core(), 1);
        first.removeConstraint(0);
        first.addParity(0, 1);
        c.due("core() of constraint 23", first.core(), 1 << 23);
    }

    @Sentence(of = "Promise 29", says = "NONE if the formula is satisfiable.")
    static void coreOfSatisfiable(Check c) {
        c.due("core() of no constraints", new CnfXorSolver().core(), NONE);
        c.due("core() of 24 with models", Calls.full().core(), NONE);
        c.due("core() with model 0 alone", Calls.loaded("A;B;C;D;E;F;G;H;").core(), NONE);
        c.due("core() with model 255 alone", Calls.loaded("a;b;c;d;e;f;g;h;").core(), NONE);
        CnfXorSolver x = Calls.loaded("ab;aB;");
        x.decide(1);
        c.due("core() with a conflict of decisions", x.core(), NONE);
    }
}
