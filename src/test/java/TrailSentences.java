/** The sentences of THE TRAIL, of the constants and of promises 19 to 23. */
final class TrailSentences {
    private static final int NONE = CnfXorSolver.NONE;
    private static final int FALSE = CnfXorSolver.FALSE, TRUE = CnfXorSolver.TRUE, UNASSIGNED = CnfXorSolver.UNASSIGNED;
    private static final int[] NO_VARIABLES = {-1, 8, 16, 32, 256, Integer.MIN_VALUE, Integer.MAX_VALUE};

    private TrailSentences() {
    }

    /** Sees that these literals, and no others, are on the trail. */
    private static void trail(Check c, String when, CnfXorSolver x, int... literals) {
        for (int i = 0; i < literals.length; i++) {
            c.due("trailLiteral(" + i + ") " + when, x.trailLiteral(i), literals[i]);
        }
        c.isBadIndex("trailLiteral(" + literals.length + ") " + when, () -> x.trailLiteral(literals.length));
    }

    private static CnfXorSolver decided(CnfXorSolver x, int... literals) {
        for (int literal : literals) {
            x.decide(literal);
        }
        return x;
    }

    @Sentence(of = "THE TRAIL", says = "The object has a formula and a list of decisions, which are literals of different "
            + "variables.")
    static void decisionsOfDifferentVariables(Check c) {
        CnfXorSolver x = decided(new CnfXorSolver(), 0, 3, 4, 7, 8, 11, 12, 15);
        c.due("level() with a decision for each variable", x.level(), 8);
        for (int literal = 0; literal < 16; literal++) {
            int l = literal;
            c.isBadState("decide(" + l + ") of a decided variable", () -> x.decide(l));
        }
    }

    @Sentence(of = "THE TRAIL", says = "From these the trail is built; it is a list of assignments of variables, each with a "
            + "level and a reason.")
    static void listOfAssignments(Check c) {
        CnfXorSolver x = decided(Calls.loaded("D;Ab;Bc;"), 8, 0);
        trail(c, "of D;Ab;Bc; with e and a", x, 7, 8, 0, 2, 4);
        int[] reasons = {NONE, 1, 2, 0, NONE, NONE, NONE, NONE};
        for (int v = 0; v < 8; v++) {
            c.due("reason(" + v + ")", x.reason(v), reasons[v]);
        }
        c.due("backtrack(1): c has level 2, d has not", x.backtrack(1), 2);
    }

    @Sentence(of = "THE TRAIL", says = "At first no variable is assigned, and the level is 0.")
    static void atFirstNothing(Check c) {
        CnfXorSolver x = new CnfXorSolver();
        trail(c, "at first", x);
        for (int v = 0; v < 8; v++) {
            c.due("value(" + v + ")", x.value(v), UNASSIGNED);
        }
        c.due("level()", x.level(), 0);
        CnfXorSolver loaded = Calls.loaded("ab;");
        trail(c, "of ab;", loaded);
        c.due("level() of ab;", loaded.level(), 0);
    }

    @Sentence(of = "THE TRAIL", says = "Propagation: take the constraint with the smallest number that is violated or unit.")
    static void smallestNumber(Check c) {
        CnfXorSolver x = Calls.loaded("Bd;Cd;b;c;");
        trail(c, "of Bd;Cd;b;c;: the search begins at 0 each time", x, 2, 6, 4);
        CnfXorSolver first = Calls.loaded("ab;Cb;A;c;");
        c.due("reason(1): 0 is unit before 1", first.reason(1), 0);
        CnfXorSolver unit = decided(Calls.loaded("Ab;AC;AB;"), 0);
        c.due("value(2): the unit 1 goes before the violated 2", unit.value(2), FALSE);
        CnfXorSolver violated = decided(Calls.loaded("Ab;AB;AC;"), 0);
        c.due("value(2): the violated 1 goes before the unit 2", violated.value(2), UNASSIGNED);
        CnfXorSolver last = Calls.loaded("ab;".repeat(23) + "H;");
        c.due("reason(7): 23 can be the smallest", last.reason(7), 23);
    }

    @Sentence(of = "THE TRAIL", says = "A constraint is violated if all its variables are assigned and it is not satisfied.")
    static void violated(Check c) {
        CnfXorSolver open = decided(Calls.loaded("ABCd;ABCe;"), 0, 2);
        c.due("conflict() with two variables open", open.conflict(), NONE);
        open.decide(4);
        c.due("conflict() with all satisfied", open.conflict(), NONE);
        CnfXorSolver x = decided(Calls.loaded("ABd;ABD;"), 0, 2);
        c.due("conflict() with all assigned", x.conflict(), 1);
        CnfXorSolver parity = decided(Calls.loaded("=1ab;=1bc;=1ac;"), 0);
        c.due("conflict() of a parity", parity.conflict(), 2);
        c.due("conflict() of a satisfied parity", decided(Calls.loaded("=1ab;=1bc;=0ac;"), 0).conflict(), NONE);
    }

    @Sentence(of = "THE TRAIL", says = "(So a constraint of size 0 is violated if it is not satisfied.)")
    static void violatedWithSizeZero(Check c) {
        CnfXorSolver clause = Calls.loaded("a;");
        clause.addClause(0, 0);
        c.due("conflict() with the empty clause", clause.conflict(), 1);
        CnfXorSolver parity = Calls.loaded("a;");
        parity.addParity(0, 0);
        c.due("conflict() with the satisfied empty parity", parity.conflict(), NONE);
        parity.addParity(0, 1);
        c.due("conflict() with the empty parity of bit 1", parity.conflict(), 2);
    }

    @Sentence(of = "THE TRAIL", says = "A clause is unit if exactly one of its variables is not assigned")
    static void unitClauseHasOneOpen(Check c) {
        CnfXorSolver two = Calls.loaded("ab;CD;");
        trail(c, "with two open", two);
        two.decide(3);
        trail(c, "with one open", two, 3, 0);
        trail(c, "with one open, of size 1", Calls.loaded("a;H;"), 0, 15);
        CnfXorSolver eight = decided(Calls.loaded("abcdefgh;"), 1, 3, 5, 7, 9, 11);
        trail(c, "with two open of eight", eight, 1, 3, 5, 7, 9, 11);
        eight.decide(15);
        trail(c, "with one open of eight", eight, 1, 3, 5, 7, 9, 11, 15, 12);
    }

    @Sentence(of = "THE TRAIL", says = "and the others do not satisfy it;")
    static void unitClauseIsNotSatisfied(Check c) {
        trail(c, "with a of abc true", decided(Calls.loaded("abc;"), 0, 3), 0, 3);
        trail(c, "with A of ABC true", decided(Calls.loaded("ABC;"), 1, 2), 1, 2);
        trail(c, "with B of aBc true", decided(Calls.loaded("aBc;"), 1, 3), 1, 3);
        trail(c, "with the last of aB satisfied", decided(Calls.loaded("aB;"), 3), 3);
    }

    @Sentence(of = "THE TRAIL", says = "a parity is unit if exactly one of its variables is not assigned.")
    static void unitParity(Check c) {
        CnfXorSolver x = Calls.loaded("=0abc;");
        trail(c, "with three open", x);
        x.decide(4);
        trail(c, "with two open", x, 4);
        x.decide(1);
        trail(c, "with one open", x, 4, 1, 2);
        trail(c, "of size 1", Calls.loaded("=1h;=0a;"), 14, 1);
        CnfXorSolver none = Calls.loaded("a;b;=0ab;");
        trail(c, "with none open", none, 0, 2);
        c.due("conflict() with none open", none.conflict(), NONE);
    }

    @Sentence(of = "THE TRAIL", says = "If there is no such constraint, propagation ends.")
    static void propagationEnds(Check c) {
        trail(c, "of no constraints", new CnfXorSolver());
        CnfXorSolver x = Calls.loaded("a;bc;=1de;");
        trail(c, "of a;bc;=1de;", x, 0);
        c.due("conflict() of a;bc;=1de;", x.conflict(), NONE);
        CnfXorSolver all = Calls.loaded("a;b;c;d;e;f;g;h;=0abcdefgh;");
        trail(c, "with all assigned", all, 0, 2, 4, 6, 8, 10, 12, 14);
        c.due("conflict() with all assigned", all.conflict(), NONE);
    }

    @Sentence(of = "THE TRAIL", says = "If the constraint is violated, it is the conflict, and propagation ends.")
    static void conflictEnds(Check c) {
        CnfXorSolver x = Calls.loaded("a;A;b;");
        c.due("conflict() of a;A;b;", x.conflict(), 1);
        trail(c, "of a;A;b;", x, 0);
        CnfXorSolver two = Calls.loaded("a;b;A;B;");
        c.due("conflict(): the first violated one", two.conflict(), 2);
        trail(c, "of a;b;A;B;", two, 0, 2);
    }

    @Sentence(of = "THE TRAIL", says = "If it is unit, its variable is assigned so that the constraint is satisfied, at the "
            + "present level, with this constraint as its reason; then propagation goes on.")
    static void unitIsAssigned(Check c) {
        trail(c, "of a;B;", Calls.loaded("a;B;"), 0, 3);
        for (int k = 0; k < 8; k++) {
            int a = k & 1;
            int b = k >> 1 & 1;
            int bit = k >> 2;
            CnfXorSolver x = decided(Calls.loaded("=" + bit + "abh;"), 1 - a, 3 - b);
            c.due("value(7) of =" + bit + "abh; with a = " + a + ", b = " + b, x.value(7), (a + b + bit) % 2);
        }
        CnfXorSolver chain = Calls.loaded("Gh;Fg;Ef;De;Cd;Bc;Ab;");
        chain.decide(0);
        trail(c, "of a chain", chain, 0, 2, 4, 6, 8, 10, 12, 14);
        for (int v = 1; v < 8; v++) {
            c.due("reason(" + v + ") in a chain", chain.reason(v), 7 - v);
        }
        CnfXorSolver level = decided(Calls.loaded("h;AB;"), 6, 0);
        c.due("assigned at level 2", level.backtrack(2), 4);
        c.due("not assigned at level 1", level.backtrack(1), 2);
    }

    @Sentence(of = "THE TRAIL", says = "The trail is built like this: first propagation takes place at level 0.")
    static void propagationAtLevelZero(Check c) {
        CnfXorSolver x = Calls.loaded("a;Ab;");
        trail(c, "without decisions", x, 0, 2);
        c.due("level()", x.level(), 0);
        x.decide(15);
        x.addClause(8, 0);
        trail(c, "with a decision before the unit was added", x, 0, 2, 6, 15);
        c.due("backtrack(0): level 0 stays", x.backtrack(0), 3);
        CnfXorSolver conflict = Calls.loaded("a;A;");
        c.due("conflict() at level 0", conflict.conflict(), 1);
    }

    @Sentence(of = "THE TRAIL", says = "Then, for each decision in the order of the list: if there is a conflict,")
    static void decisionsBehindConflict(Check c) {
        CnfXorSolver x = decided(Calls.loaded("Ah;"), 0, 2, 4);
        x.addClause(0, 129);
        c.due("level(): conflict at level 1", x.level(), 1);
        c.due("conflict()", x.conflict(), 1);
        trail(c, "up to the conflict", x, 0, 14);
        CnfXorSolver zero = decided(new CnfXorSolver(), 0, 2);
        zero.addClause(0, 0);
        c.due("level(): conflict at level 0", zero.level(), 0);
        trail(c, "with a conflict at level 0", zero);
        CnfXorSolver last = decided(Calls.loaded("Ch;"), 0, 2, 4);
        last.addClause(0, 132);
        c.due("level(): a conflict by the last decision keeps it", last.level(), 3);
    }

    @Sentence(of = "THE TRAIL", says = "or the variable of the decision is assigned already,")
    static void decisionsAssignedAlready(Check c) {
        CnfXorSolver same = decided(new CnfXorSolver(), 0, 2, 4);
        same.addClause(2, 1);
        c.due("level(): b follows from a", same.level(), 1);
        trail(c, "with b by propagation", same, 0, 2);
        CnfXorSolver other = decided(new CnfXorSolver(), 0, 2, 4);
        other.addClause(0, 3);
        c.due("level(): not b follows from a", other.level(), 1);
        trail(c, "with not b by propagation", other, 0, 3);
        CnfXorSolver first = decided(new CnfXorSolver(), 0, 2);
        first.addParity(1, 1);
        c.due("level(): a holds at level 0", first.level(), 0);
        trail(c, "with a at level 0", first, 0);
    }

    @Sentence(of = "THE TRAIL", says = "this decision and all later ones are removed from the list.")
    static void removedFromList(Check c) {
        CnfXorSolver x = decided(new CnfXorSolver(), 0, 2, 4, 6);
        x.addClause(4, 2);
        c.due("level(): c and d are removed", x.level(), 2);
        c.due("value(3): later ones too", x.value(3), UNASSIGNED);
        x.removeConstraint(0);
        c.due("level(): they do not come back", x.level(), 2);
        trail(c, "without the constraint", x, 0, 2);
        c.due("decide(6)", x.decide(6), 3);
    }

    @Sentence(of = "THE TRAIL", says = "Otherwise the level grows by 1, the variable is assigned as the literal says, without "
            + "a reason, and propagation takes place.")
    static void levelGrows(Check c) {
        CnfXorSolver x = Calls.loaded("AC;");
        x.decide(15);
        c.due("level() after one", x.level(), 1);
        c.due("value(7)", x.value(7), FALSE);
        x.decide(0);
        c.due("level() after two", x.level(), 2);
        c.due("reason(0)", x.reason(0), NONE);
        trail(c, "with C propagated", x, 15, 0, 5);
        decided(x, 2, 6, 8, 10, 12);
        c.due("level() with all assigned", x.level(), 7);
    }

    @Sentence(of = "THE TRAIL", says = "Whenever the formula or the list of decisions changes")
    static void builtAnew(Check c) {
        CnfXorSolver x = decided(Calls.loaded("gh;Ab;"), 0);
        x.removeConstraint(0);
        c.due("reason(1) after a removal before it", x.reason(1), 0);
        x.addClause(0, 8);
        trail(c, "with a unit behind the decision", x, 7, 0, 2);
        x.removeConstraint(0);
        trail(c, "without its reason", x, 7, 0);
        x.backtrack(0);
        trail(c, "without the decision", x, 7);
        CnfXorSolver conflict = Calls.loaded("a;A;");
        conflict.removeConstraint(0);
        c.due("conflict() after a removal", conflict.conflict(), NONE);
        trail(c, "after a removal", conflict, 1);
    }

    @Sentence(of = "THE TRAIL", says = "(also by load, undo and restore), the trail is built anew.")
    static void builtAnewByLoadUndoAndRestore(Check c) {
        CnfXorSolver x = decided(Calls.withText("b;Bc;"), 0);
        x.load();
        trail(c, "after load", x, 2, 4);
        x.addClause(0, 2);
        c.due("conflict()", x.conflict(), 2);
        x.undo();
        c.due("conflict() after undo", x.conflict(), NONE);
        trail(c, "after undo", x, 2, 4);
        x.decide(0);
        x.save(0);
        x.removeConstraint(0);
        x.restore(0);
        trail(c, "after restore", x, 2, 4, 0);
        c.due("reason(1) after restore", x.reason(1), 0);
    }

    @Sentence(of = "THE TRAIL", says = "A new object has an empty formula and no decisions.")
    static void newObject(Check c) {
        CnfXorSolver x = new CnfXorSolver();
        c.due("constraintCount()", x.constraintCount(), 0);
        c.due("level()", x.level(), 0);
        c.due("conflict()", x.conflict(), NONE);
        c.due("backtrack(0)", x.backtrack(0), 0);
    }

    @Sentence(of = "Promise 19", says = "Returns the level, which is the number of decisions.")
    static void level(Check c) {
        CnfXorSolver x = new CnfXorSolver();
        for (int v = 0; v < 8; v++) {
            c.due("level()", x.level(), v);
            x.decide(2 * v + 1);
        }
        c.due("level() of eight", x.level(), 8);
        CnfXorSolver y = decided(Calls.loaded("h;Ab;Ac;"), 0);
        c.due("level(): propagated ones do not count", y.level(), 1);
    }

    @Sentence(of = "Promise 20", says = "Returns the value of a variable on the trail. - `v`: variable Returns FALSE, TRUE or "
            + "UNASSIGNED.")
    static void value(Check c) {
        CnfXorSolver x = decided(Calls.loaded("H;"), 0);
        c.due("value(7)", x.value(7), FALSE);
        c.due("value(0)", x.value(0), TRUE);
        for (int v = 1; v < 7; v++) {
            c.due("value(" + v + ")", x.value(v), UNASSIGNED);
        }
        x.backtrack(0);
        c.due("value(0) then", x.value(0), UNASSIGNED);
    }

    @Sentence(of = "Promise 20", says = "Throws `IndexOutOfBoundsException` if v is not 0 to 7")
    static void valueOfNone(Check c) {
        CnfXorSolver x = decided(new CnfXorSolver(), 0, 15);
        for (int v : NO_VARIABLES) {
            c.isBadIndex("value(" + v + ")", () -> x.value(v));
        }
    }

    @Sentence(of = "Promise 21", says = "Returns a literal of the trail: the one that is true by its assignment.")
    static void trueLiterals(Check c) {
        trail(c, "of H;b;=0c;=1d;", decided(Calls.loaded("H;b;=0c;=1d;"), 0, 9), 15, 2, 5, 6, 0, 9);
    }

    @Sentence(of = "Promise 21", says = "`i`: index on the trail, from 0 Returns the literal.")
    static void indexFromZero(Check c) {
        CnfXorSolver x = decided(new CnfXorSolver(), 15, 12, 11, 8, 7, 4, 3, 0);
        c.due("trailLiteral(0)", x.trailLiteral(0), 15);
        c.due("trailLiteral(7)", x.trailLiteral(7), 0);
    }

    @Sentence(of = "Promise 21", says = "Throws `IndexOutOfBoundsException` if the trail has no such index")
    static void noSuchIndex(Check c) {
        c.isBadIndex("trailLiteral(0) of none", () -> new CnfXorSolver().trailLiteral(0));
        CnfXorSolver two = decided(new CnfXorSolver(), 0, 2, 4);
        two.backtrack(2);
        for (int i : new int[] {-1, 2, 7, 8, 32, Integer.MIN_VALUE, Integer.MAX_VALUE}) {
            c.isBadIndex("trailLiteral(" + i + ") of two", () -> two.trailLiteral(i));
        }
        CnfXorSolver all = decided(new CnfXorSolver(), 15, 12, 11, 8, 7, 4, 3, 0);
        for (int i : new int[] {-1, 8, 16, Integer.MIN_VALUE, Integer.MAX_VALUE}) {
            c.isBadIndex("trailLiteral(" + i + ") of eight", () -> all.trailLiteral(i));
        }
    }

    @Sentence(of = "Promise 22", says = "Returns the reason of a variable. - `v`: variable Returns the number of the "
            + "constraint;")
    static void reason(Check c) {
        CnfXorSolver x = Calls.loaded("h;" + "ab;".repeat(21) + "Gf;g;");
        c.due("reason(7)", x.reason(7), 0);
        c.due("reason(6)", x.reason(6), 23);
        c.due("reason(5)", x.reason(5), 22);
    }

    @Sentence(of = "Promise 22", says = "NONE if v is not assigned or was assigned by a decision.")
    static void noReason(Check c) {
        CnfXorSolver x = decided(Calls.loaded("Ab;"), 0);
        c.due("reason(0) of a decision", x.reason(0), NONE);
        c.due("reason(1)", x.reason(1), 0);
        c.due("reason(2), not assigned", x.reason(2), NONE);
        x.backtrack(0);
        c.due("reason(1), no longer assigned", x.reason(1), NONE);
        x.decide(2);
        c.due("reason(1), decided now", x.reason(1), NONE);
    }

    @Sentence(of = "Promise 22", says = "Throws `IndexOutOfBoundsException` if v is not 0 to 7")
    static void reasonOfNone(Check c) {
        CnfXorSolver x = Calls.loaded("a;h;");
        for (int v : NO_VARIABLES) {
            c.isBadIndex("reason(" + v + ")", () -> x.reason(v));
        }
    }

    @Sentence(of = "Promise 23", says = "Returns the number of the constraint that is the conflict;")
    static void conflict(Check c) {
        CnfXorSolver first = new CnfXorSolver();
        first.addClause(0, 0);
        c.due("conflict(), the first", first.conflict(), 0);
        c.due("conflict(), the last", Calls.loaded("A;" + "gh;".repeat(22) + "a;").conflict(), 23);
    }

    @Sentence(of = "Promise 23", says = "NONE if there is no conflict.")
    static void noConflict(Check c) {
        c.due("conflict() of none", new CnfXorSolver().conflict(), NONE);
        CnfXorSolver x = decided(Calls.loaded("ab;aB;"), 14);
        c.due("conflict() at level 1", x.conflict(), NONE);
        x.decide(1);
        c.due("conflict() at level 2", x.conflict(), 1);
        x.backtrack(1);
        c.due("conflict() after backtrack", x.conflict(), NONE);
        c.due("a formula without a model need not have a conflict", Calls.loaded("ab;aB;Ab;AB;").conflict(), NONE);
    }
}
