/** The sentences of CONFLICT ANALYSIS and of promises 17 and 24. */
final class AnalysisSentences {
    private static final int NONE = CnfXorSolver.NONE;

    private AnalysisSentences() {
    }

    private static CnfXorSolver decided(String text, int... literals) {
        CnfXorSolver x = Calls.loaded(text);
        for (int literal : literals) {
            x.decide(literal);
        }
        return x;
    }

    private static int clause(int p, int n) {
        return 256 * n + p;
    }

    @Sentence(of = "CONFLICT ANALYSIS", says = "Conflict analysis is possible if there is a conflict")
    static void needsConflict(Check c) {
        CnfXorSolver x = decided("Ab;AB;", 14);
        c.isBadState("learnedClause() at level 1 without a conflict", () -> x.learnedClause());
        c.isBadState("learn() at level 1 without a conflict", () -> x.learn());
        x.decide(0);
        c.due("learnedClause() with a conflict", x.learnedClause(), clause(0, 1));
        CnfXorSolver all = decided("", 0, 2, 4, 6, 8, 10, 12, 14);
        c.isBadState("learnedClause() with all assigned", () -> all.learnedClause());
    }

    @Sentence(of = "CONFLICT ANALYSIS", says = "and the level is greater than 0.")
    static void needsLevel(Check c) {
        CnfXorSolver x = Calls.loaded("a;A;");
        c.due("conflict()", x.conflict(), 1);
        c.isBadState("learnedClause() at level 0", () -> x.learnedClause());
        c.isBadState("learn() at level 0", () -> x.learn());
        CnfXorSolver one = decided("Ab;AB;", 0);
        c.due("level()", one.level(), 1);
        c.due("learnedClause() at level 1", one.learnedClause(), clause(0, 1));
    }

    @Sentence(of = "CONFLICT ANALYSIS", says = "It computes a clause.")
    static void computesClause(Check c) {
        CnfXorSolver x = decided("=1abc;=0abc;", 0, 2);
        c.due("learnedClause() of parities", x.learnedClause(), clause(0, 3));
        x.learn();
        c.due("isParity(2)", x.isParity(2), false);
    }

    @Sentence(of = "CONFLICT ANALYSIS", says = "For a constraint whose variables are assigned, its false clause consists of "
            + "one literal for each of its variables: the literal that is false now.")
    static void falseClause(Check c) {
        c.due("both true", decided("=1abc;=0abc;", 0, 2).learnedClause(), clause(0, 3));
        c.due("both false", decided("=1abc;=0abc;", 1, 3).learnedClause(), clause(3, 0));
        c.due("a true, b false", decided("=1abc;=0abc;", 0, 3).learnedClause(), clause(2, 1));
        c.due("a false, b true", decided("=1abc;=0abc;", 1, 2).learnedClause(), clause(1, 2));
        c.due("of eight variables", decided("=1abcdefgh;=0abcdefgh;", 0, 3, 4, 7, 8, 11, 12).learnedClause(),
                clause(2 + 8 + 32, 1 + 4 + 16 + 64));
    }

    @Sentence(of = "CONFLICT ANALYSIS", says = "(For a clause that is violated, this is the clause itself.)")
    static void clauseItself(Check c) {
        c.due("of clauses", decided("aBCdh;aBCdH;", 1, 2, 4, 7).learnedClause(), clause(9, 6));
        c.due("a violated clause, its reason a parity", decided("=1abh;ABH;", 0, 2).learnedClause(), clause(0, 3));
    }

    @Sentence(of = "CONFLICT ANALYSIS", says = "The computation starts with the false clause of the conflict.")
    static void startsWithConflict(Check c) {
        CnfXorSolver x = decided("ACd;BCd;eCD;FCg;FCG;", 0, 9, 4);
        c.due("conflict()", x.conflict(), 2);
        c.due("learnedClause(): e of the conflict, a of the reason, no f", x.learnedClause(), clause(16, 5));
    }

    @Sentence(of = "CONFLICT ANALYSIS", says = "As long as two or more of the variables of the clause were assigned at the "
            + "present level,")
    static void twoOrMoreAtPresentLevel(Check c) {
        CnfXorSolver one = decided("Ab;Bc;Bd;CD;", 0);
        c.due("it ends with one variable of level 1, which is not the decision", one.learnedClause(), clause(0, 2));
        CnfXorSolver all = decided("Ab;Ac;BCd;BCD;", 0);
        c.due("it goes on with two", all.learnedClause(), clause(0, 1));
        CnfXorSolver below = decided("ABCd;ABCD;", 0, 2, 4);
        c.due("two of lower levels stay", below.learnedClause(), clause(0, 7));
        CnfXorSolver zero = decided("g;h;GHAb;GHAB;", 0);
        c.due("two of level 0 stay", zero.learnedClause(), clause(0, 193));
    }

    @Sentence(of = "CONFLICT ANALYSIS", says = "the variable of the clause that is latest on the trail is removed from it,")
    static void latestIsRemoved(Check c) {
        CnfXorSolver x = decided("Hg;Gb;Ga;AB;", 14);
        c.due("the latest is a, with the smallest number", x.learnedClause(), clause(0, 64));
        CnfXorSolver y = decided("Ah;Bhg;HGf;FG;", 0);
        c.due("conflict() at level 1", y.conflict(), NONE);
        y.decide(12);
        c.due("only f goes: h is of level 1", y.learnedClause(), clause(0, 192));
        CnfXorSolver z = decided("Ab;Ac;EAd;BC;", 8, 0);
        c.due("d is the latest, but not of the clause", z.learnedClause(), clause(0, 1));
    }

    @Sentence(of = "CONFLICT ANALYSIS", says = "and the false clause of its reason, without this variable, is added to it.")
    static void reasonIsAdded(Check c) {
        CnfXorSolver x = decided("=1bcd;eDF;=0acf;", 9, 2, 1);
        c.due("conflict() before the last decision", x.conflict(), NONE);
        x.decide(4);
        c.due("conflict()", x.conflict(), 2);
        c.due("a, C and f of =0acf;, then e and D for f, then B and C for D", x.learnedClause(), clause(17, 6));
    }

    @Sentence(of = "CONFLICT ANALYSIS", says = "The result is the learned clause.")
    static void resultIsLearned(Check c) {
        CnfXorSolver x = decided("eAb;eAB;", 9, 0);
        int learned = x.learnedClause();
        c.due("learnedClause()", learned, clause(16, 1));
        x.learn();
        c.due("variables(2)", x.variables(2), learned % 256);
        c.due("negated(2)", x.negated(2), learned / 256);
    }

    @Sentence(of = "CONFLICT ANALYSIS", says = "Its backjump level is the greatest level of its variables that is less than "
            + "the present level,")
    static void greatestLowerLevel(Check c) {
        c.due("levels 1 and 2 of 3", decided("ABCd;ABCD;", 0, 2, 4).learn(), 2);
        c.due("level 1 of 4", decided("ACd;ACD;", 0, 2, 12, 4).learn(), 1);
        c.due("levels 2 and 1, the greater one has the smaller number", decided("ABCd;ABCD;", 2, 0, 4).learn(), 2);
        c.due("levels 1 and 3 of 5", decided("ABCd;ABCD;", 0, 14, 2, 12, 4).learn(), 3);
    }

    @Sentence(of = "CONFLICT ANALYSIS", says = "or 0 if there is none.")
    static void noLowerLevel(Check c) {
        c.due("one variable alone, at level 1", decided("Ab;AB;", 0).learn(), 0);
        c.due("one variable alone, at level 3", decided("Ab;AB;", 14, 12, 0).learn(), 0);
        c.due("the others are of level 0", decided("h;HAb;HAB;", 12, 0).learn(), 0);
    }

    @Sentence(of = "Promise 17", says = "Adds the learned clause at the end of the formula,")
    static void learnAdds(Check c) {
        CnfXorSolver x = decided("Ab;AB;" + "gh;".repeat(21), 0);
        x.learn();
        c.due("constraintCount()", x.constraintCount(), 24);
        c.due("variables(23)", x.variables(23), 0);
        c.due("negated(23)", x.negated(23), 1);
        c.due("isParity(23)", x.isParity(23), false);
        c.due("negated(1) stays", x.negated(1), 3);
    }

    @Sentence(of = "Promise 17", says = "and removes all decisions but as many as its backjump level.")
    static void learnRemoves(Check c) {
        CnfXorSolver x = decided("ACd;ACD;", 0, 2, 12, 4);
        x.learn();
        c.due("level()", x.level(), 1);
        c.due("value(0)", x.value(0), CnfXorSolver.TRUE);
        c.due("value(1)", x.value(1), CnfXorSolver.UNASSIGNED);
        c.due("value(2), as the clause is unit now", x.value(2), CnfXorSolver.FALSE);
        CnfXorSolver zero = decided("Ab;AB;", 14, 0);
        zero.learn();
        c.due("level(): none stays", zero.level(), 0);
        c.due("value(7)", zero.value(7), CnfXorSolver.UNASSIGNED);
    }

    @Sentence(of = "Promise 17", says = "Returns the backjump level.")
    static void learnReturns(Check c) {
        c.due("learn() to 0", decided("Ab;AB;", 0).learn(), 0);
        CnfXorSolver deep = decided("ABCDEFGh;ABCDEFGH;", 0, 2, 4, 6, 8, 10, 12);
        c.due("level()", deep.level(), 7);
        c.due("learn() from 7 to 6", deep.learn(), 6);
    }

    @Sentence(of = "Promise 17", says = "Throws `IllegalStateException` if conflict analysis is not possible,")
    static void learnIsNotPossible(Check c) {
        c.isBadState("learn() of a new object", () -> new CnfXorSolver().learn());
        c.isBadState("learn() at level 0 with a conflict", () -> Calls.loaded("a;A;").learn());
        c.isBadState("learn() at level 1 without a conflict", () -> decided("Ab;", 0).learn());
        CnfXorSolver twice = decided("Ab;AB;", 0);
        c.due("learn()", twice.learn(), 0);
        c.isBadState("learn() again", () -> twice.learn());
    }

    @Sentence(of = "Promise 17", says = "or there are 24 constraints")
    static void learnToFull(Check c) {
        CnfXorSolver x = decided("Ab;AB;" + "gh;".repeat(22), 0);
        c.isBadState("learn() to 24", () -> x.learn());
        c.due("constraintCount()", x.constraintCount(), 24);
        c.due("level()", x.level(), 1);
        c.due("learnedClause() can still be asked for", x.learnedClause(), clause(0, 1));
        x.removeConstraint(23);
        c.due("learn() to 23", x.learn(), 0);
    }

    @Sentence(of = "Promise 24", says = "Returns the learned clause as 256 * N + P. Returns that number.")
    static void learnedClauseNumber(Check c) {
        c.due("P of h alone", decided("hb;hB;", 15).learnedClause(), 128);
        c.due("N of h alone", decided("Hb;HB;", 14).learnedClause(), 256 * 128);
        c.due("all but a in P", decided("abcdefgh;Abcdefgh;", 3, 5, 7, 9, 11, 13, 15).learnedClause(), 254);
        c.due("all but a in N", decided("aBCDEFGH;ABCDEFGH;", 2, 4, 6, 8, 10, 12, 14).learnedClause(), 256 * 254);
    }

    @Sentence(of = "Promise 24", says = "Throws `IllegalStateException` if conflict analysis is not possible")
    static void noLearnedClause(Check c) {
        c.isBadState("learnedClause() of a new object", () -> new CnfXorSolver().learnedClause());
        c.isBadState("learnedClause() at level 0", () -> Calls.loaded("a;A;").learnedClause());
        CnfXorSolver x = decided("Ab;AB;", 0);
        x.backtrack(0);
        c.isBadState("learnedClause() after backtrack", () -> x.learnedClause());
        x.decide(0);
        x.learn();
        c.isBadState("learnedClause() after learn", () -> x.learnedClause());
    }
}
