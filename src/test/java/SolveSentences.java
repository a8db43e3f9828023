/** The sentences of promise 33. */
final class SolveSentences {
    private SolveSentences() {
    }

    private static void solve(Check c, String text, int answer) {
        c.due("solve() of " + text, Calls.loaded(text).solve(), answer);
    }

    @Sentence(of = "Promise 33", says = "Solves a copy of the formula without decisions.")
    static void copyWithoutDecisions(Check c) {
        CnfXorSolver x = Calls.loaded("AB;Ab;");
        x.decide(1);
        x.save(0);
        String before = Calls.seen(x);
        c.due("solve() with the decision that would help", x.solve(), 1);
        c.due("solve() again", x.solve(), 1);
        c.due("what is seen then", Calls.seen(x), before);
        c.due("undo() then", x.undo(), 0);
        c.due("restore(0) then", x.restore(0), 2);
        c.due("level() then", x.level(), 1);
        CnfXorSolver conflict = Calls.loaded("aB;ab;");
        conflict.decide(1);
        c.due("conflict()", conflict.conflict(), 1);
        c.due("solve() with a conflict of decisions", conflict.solve(), 0);
        c.due("conflict() then", conflict.conflict(), 1);
    }

    @Sentence(of = "Promise 33", says = "As long as there is no conflict and some variable is not assigned, the smallest "
            + "variable that is not assigned is decided to be true.")
    static void smallestDecidedTrue(Check c) {
        solve(c, "AB;Ab;", 1);
        solve(c, "aB;ab;", 0);
        solve(c, "BA;Ba;", 0);
        solve(c, "bA;ba;", 0);
        solve(c, "A;BC;Bc;", 1);
        solve(c, "GH;Gh;", 1);
        solve(c, "HG;Hg;", 0);
        solve(c, "a;b;c;d;e;f;g;", 0);
    }

    @Sentence(of = "Promise 33", says = "If there is a conflict at a level greater than 0, the learned clause is added and "
            + "decisions are removed as by learn().")
    static void learnsAndJumpsBack(Check c) {
        solve(c, "AB;Ab;", 1);
        solve(c, "AB;Ab;CD;Cd;EF;Ef;GH;Gh;", 4);
        // a, b and c give AC and a level back to a; there C gives A; at level 0 af and aF have a conflict
        CnfXorSolver x = Calls.loaded("ACd;ACD;Ace;AcE;af;aF;");
        x.decide(0);
        x.decide(2);
        x.decide(4);
        c.due("learn() the first time", x.learn(), 1);
        c.due("conflict() then", x.conflict() != CnfXorSolver.NONE, true);
        c.due("learn() the second time", x.learn(), 0);
        c.due("conflict() at level 0", x.conflict() != CnfXorSolver.NONE, true);
        solve(c, "ACd;ACD;Ace;AcE;af;aF;", -3);
        solve(c, "ACd;ACD;Ace;AcE;", 2);
    }

    @Sentence(of = "Promise 33", says = "The solving ends if there is no conflict and all variables are assigned,")
    static void endsWithAllAssigned(Check c) {
        solve(c, "", 0);
        solve(c, "a;b;c;d;e;f;g;h;", 0);
        solve(c, "A;B;C;D;E;F;G;H;", 0);
        c.due("solve() of 24", Calls.full().solve(), 0);
        solve(c, "H;Hg;GA;GB;GC;GD;GE;GF;=1fgh;", 0);
    }

    @Sentence(of = "Promise 33", says = "if there is a conflict at level 0,")
    static void endsAtLevelZero(Check c) {
        solve(c, "a;A;", -1);
        solve(c, "=1ab;=0ab;a;", -1);
        solve(c, "a;A;" + "b;".repeat(22), -1);
        CnfXorSolver x = new CnfXorSolver();
        x.addClause(0, 0);
        c.due("solve() of the empty clause", x.solve(), -1);
        CnfXorSolver parity = new CnfXorSolver();
        parity.addParity(0, 1);
        c.due("solve() of the empty parity of bit 1", parity.solve(), -1);
    }

    @Sentence(of = "Promise 33", says = "or before a clause would be learned with 24 constraints.")
    static void endsBeforeTwentyFive(Check c) {
        solve(c, "AB;Ab;" + "gh;".repeat(21), 1);
        solve(c, "AB;Ab;" + "gh;".repeat(22), -90);
        solve(c, "AB;Ab;CD;Cd;" + "gh;".repeat(18), 2);
        solve(c, "AB;Ab;CD;Cd;" + "gh;".repeat(19), -90);
        solve(c, "AB;Ab;aB;ab;" + "gh;".repeat(19), -2);
        solve(c, "AB;Ab;aB;ab;" + "gh;".repeat(20), -90);
    }

    @Sentence(of = "Promise 33", says = "Returns the number of learned clauses if a model was found;")
    static void returnsLearned(Check c) {
        solve(c, "ab;", 0);
        solve(c, "AB;Ab;", 1);
        solve(c, "AB;Ab;CD;Cd;", 2);
        solve(c, "AB;Ab;CD;Cd;EF;Ef;", 3);
    }

    @Sentence(of = "Promise 33", says = "-1 minus the number of learned clauses if there was a conflict at level 0;")
    static void returnsMinusLearned(Check c) {
        solve(c, "a;A;", -1);
        solve(c, "AB;Ab;aB;ab;", -2);
        solve(c, "AB;Ab;CD;Cd;ac;aC;", -2);
        solve(c, "=1ab;=1bc;=1ac;", -2);
    }

    @Sentence(of = "Promise 33", says = "NONE * 10 (-90) in the third case.")
    static void returnsMinusNinety(Check c) {
        solve(c, "AB;Ab;" + "gh;".repeat(22), -90);
        CnfXorSolver x = Calls.loaded("=1ab;=1bc;=1ac;" + "gh;".repeat(21));
        c.due("solve() of parities", x.solve(), -90);
        x.removeConstraint(23);
        c.due("solve() with room for one", x.solve(), -2);
    }
}
