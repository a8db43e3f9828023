/** The sentences of ACTIONS AND UNDO and of promise 18. */
final class UndoSentences {
    private UndoSentences() {
    }

    /** Sees that an action changes what is seen, and that undo brings back what was seen before it. */
    private static void undone(Check c, String name, CnfXorSolver x, Runnable action) {
        String before = Calls.seen(x);
        action.run();
        c.due(name + " changes what is seen", Calls.seen(x).equals(before), false);
        x.undo();
        c.due("what is seen after undo of " + name, Calls.seen(x), before);
    }

    @Sentence(of = "ACTIONS AND UNDO", says = "The methods in the section \"actions\" change the state,")
    static void changeState(Check c) {
        String text = "a;Ab;=1cd;=1ce;GHf;GHF;";
        CnfXorSolver x = Calls.loaded(text);
        undone(c, "addClause(4, 0)", x, () -> x.addClause(4, 0));
        undone(c, "addParity(12, 0)", x, () -> x.addParity(12, 0));
        CnfXorSolver y = Calls.loaded(text);
        undone(c, "removeConstraint(1)", y, () -> y.removeConstraint(1));
        undone(c, "resolve(0, 1, 0)", y, () -> y.resolve(0, 1, 0));
        CnfXorSolver z = Calls.loaded(text);
        undone(c, "sum(2, 3)", z, () -> z.sum(2, 3));
        undone(c, "decide(4)", z, () -> z.decide(4));
        CnfXorSolver u = Calls.loaded(text);
        u.decide(12);
        u.decide(4);
        undone(c, "backtrack(1)", u, () -> u.backtrack(1));
        undone(c, "backtrack(0)", u, () -> u.backtrack(0));
        CnfXorSolver v = Calls.loaded(text);
        v.decide(12);
        v.decide(4);
        v.decide(14);
        undone(c, "learn()", v, () -> v.learn());
    }

    @Sentence(of = "ACTIONS AND UNDO", says = "which consists of the formula and the decisions.")
    static void formulaAndDecisions(Check c) {
        CnfXorSolver x = Calls.loaded("Ab;");
        x.decide(0);
        x.decide(15);
        x.addClause(0, 1);
        x.addClause(4, 0);
        x.decide(9);
        x.decide(11);
        x.undo();
        x.undo();
        x.undo();
        c.due("level(): no decision stays", x.level(), 0);
        c.due("undo()", x.undo(), 2);
        c.due("constraintCount(): the formula is back", x.constraintCount(), 1);
        c.due("level(): the decisions are back", x.level(), 2);
        c.due("trailLiteral(0)", x.trailLiteral(0), 0);
        c.due("trailLiteral(2)", x.trailLiteral(2), 15);
    }

    @Sentence(of = "ACTIONS AND UNDO", says = "Each call of one of them that does not throw an exception is an action.")
    static void eachCallIsAction(Check c) {
        CnfXorSolver x = new CnfXorSolver();
        x.backtrack(0);
        c.due("undo() of backtrack to the present level", x.undo(), 0);
        x.addParity(0, 0);
        x.sum(0, 0);
        x.removeConstraint(1);
        c.due("undo() of the third of three", x.undo(), 2);
        c.due("undo() of the second of three", x.undo(), 1);
        Check.outcome(() -> x.addClause(1, 1));
        Check.outcome(() -> x.addParity(1, 2));
        Check.outcome(() -> x.removeConstraint(1));
        Check.outcome(() -> x.resolve(0, 0, 0));
        Check.outcome(() -> x.sum(0, 1));
        Check.outcome(() -> x.decide(16));
        Check.outcome(() -> x.backtrack(1));
        Check.outcome(() -> x.learn());
        c.due("undo() behind refused calls", x.undo(), 0);
    }

    @Sentence(of = "ACTIONS AND UNDO", says = "The state before each of the last 14 actions is remembered;")
    static void fourteenRemembered(Check c) {
        CnfXorSolver x = Calls.loaded("h;");
        for (int i = 0; i < 14; i++) {
            x.addClause(i + 1, 0);
        }
        for (int left = 13; left >= 0; left--) {
            c.due("undo()", x.undo(), left);
            c.due("constraintCount() with " + left + " left", x.constraintCount(), left + 1);
            c.due("the last constraint with " + left + " left", x.variables(left), left == 0 ? 128 : left);
        }
        c.isBadState("undo() with none left", () -> x.undo());
    }

    @Sentence(of = "ACTIONS AND UNDO", says = "when a fifteenth action happens, the oldest remembered state is forgotten.")
    static void fifteenthForgetsOldest(Check c) {
        for (int actions : new int[] {15, 16, 24}) {
            CnfXorSolver x = new CnfXorSolver();
            for (int i = 0; i < actions; i++) {
                x.addClause(i + 1, 0);
            }
            for (int left = 13; left >= 0; left--) {
                c.due("undo() after " + actions, x.undo(), left);
                c.due("constraintCount() after " + actions, x.constraintCount(), actions - 14 + left);
            }
            c.isBadState("undo() fifteen times after " + actions, () -> x.undo());
            c.due("constraintCount(): the first are not taken back", x.constraintCount(), actions - 14);
            c.due("the last constraint then", x.variables(actions - 15), actions - 14);
        }
    }

    @Sentence(of = "ACTIONS AND UNDO", says = "The text and the save slots are not part of the state.")
    static void textAndSlotsStay(Check c) {
        CnfXorSolver x = new CnfXorSolver();
        x.addClause(1, 0);
        Calls.type(x, "b;c");
        x.save(0);
        x.addClause(2, 0);
        x.save(1);
        x.append(';');
        c.due("undo()", x.undo(), 1);
        c.due("undo() again", x.undo(), 0);
        c.due("errorPosition() after undo", x.errorPosition(), CnfXorSolver.NONE);
        c.due("restore(1) after undo", x.restore(1), 2);
        c.due("restore(0) after undo", x.restore(0), 1);
        c.due("clearText() after restore", x.clearText(), 4);
    }

    @Sentence(of = "ACTIONS AND UNDO", says = "undo, load and restore are not actions.")
    static void notActions(Check c) {
        CnfXorSolver x = Calls.withText("a;");
        x.addClause(1, 0);
        x.addClause(2, 0);
        x.undo();
        c.due("undo() takes no undo back", x.undo(), 0);
        c.due("constraintCount()", x.constraintCount(), 0);
        x.load();
        c.isBadState("undo() after load", () -> x.undo());
        x.save(0);
        x.restore(0);
        c.isBadState("undo() after restore", () -> x.undo());
        x.errorPosition();
        x.solve();
        x.core();
        x.save(1);
        x.append(97);
        x.clearText();
        c.isBadState("undo() after other calls", () -> x.undo());
    }

    @Sentence(of = "Promise 18", says = "Takes back the last action that is remembered.")
    static void takesBackLast(Check c) {
        CnfXorSolver x = new CnfXorSolver();
        x.addClause(3, 0);
        x.decide(1);
        x.removeConstraint(0);
        x.backtrack(0);
        x.decide(14);
        x.undo();
        x.undo();
        x.undo();
        c.due("constraintCount()", x.constraintCount(), 1);
        c.due("value(1)", x.value(1), CnfXorSolver.TRUE);
        x.undo();
        c.due("level()", x.level(), 0);
        x.addClause(0, 4);
        x.undo();
        c.due("constraintCount() after another action", x.constraintCount(), 1);
        x.undo();
        c.due("constraintCount() at the end", x.constraintCount(), 0);
    }

    @Sentence(of = "Promise 18", says = "Returns how many states are still remembered.")
    static void stillRemembered(Check c) {
        CnfXorSolver x = new CnfXorSolver();
        x.decide(0);
        c.due("undo() of the only one", x.undo(), 0);
        for (int i = 0; i < 30; i++) {
            x.backtrack(0);
        }
        c.due("undo() after thirty", x.undo(), 13);
        c.due("undo() then", x.undo(), 12);
        x.backtrack(0);
        x.backtrack(0);
        x.backtrack(0);
        c.due("undo() after three more", x.undo(), 13);
    }

    @Sentence(of = "Promise 18", says = "Throws `IllegalStateException` if none is remembered")
    static void noneRemembered(Check c) {
        CnfXorSolver x = new CnfXorSolver();
        c.isBadState("undo() of a new object", () -> x.undo());
        x.decide(0);
        x.undo();
        c.isBadState("undo() again", () -> x.undo());
        c.due("level()", x.level(), 0);
        for (int i = 0; i < 15; i++) {
            x.backtrack(0);
        }
        for (int i = 0; i < 14; i++) {
            x.undo();
        }
        c.isBadState("undo() the fifteenth time", () -> x.undo());
    }
}
