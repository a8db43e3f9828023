/** The sentences of promises 34 and 35. */
final class SlotSentences {
    private static final int[] NO_SLOTS = {-1, 2, 3, 32, 256, Integer.MIN_VALUE, Integer.MAX_VALUE};

    private SlotSentences() {
    }

    @Sentence(of = "Promise 34", says = "Stores the present state in a slot.")
    static void stores(Check c) {
        CnfXorSolver x = Calls.loaded("Ab;=1cd;");
        x.decide(0);
        x.decide(9);
        String saved = Calls.seen(x);
        x.save(0);
        c.due("what is seen after save", Calls.seen(x), saved);
        x.backtrack(0);
        x.removeConstraint(0);
        x.decide(13);
        x.decide(15);
        x.restore(0);
        c.due("what is seen after restore", Calls.seen(x), saved);
        x.backtrack(1);
        x.save(0);
        x.backtrack(0);
        x.restore(0);
        c.due("level() of a state saved over another", x.level(), 1);
    }

    @Sentence(of = "Promise 34", says = "`slot`: 0 or 1")
    static void twoSlots(Check c) {
        CnfXorSolver x = new CnfXorSolver();
        c.due("save(1)", x.save(1), 0);
        x.addClause(1, 0);
        c.due("save(0)", x.save(0), 1);
        x.addClause(2, 0);
        c.due("restore(1)", x.restore(1), 0);
        c.due("restore(0)", x.restore(0), 1);
    }

    @Sentence(of = "Promise 34", says = "Returns the number of constraints.")
    static void saveReturns(Check c) {
        c.due("save(0) of none", new CnfXorSolver().save(0), 0);
        c.due("save(1) of one", Calls.loaded("a;").save(1), 1);
        c.due("save(1) of 24", Calls.full().save(1), 24);
    }

    @Sentence(of = "Promise 34", says = "Throws `IndexOutOfBoundsException` if there is no such slot")
    static void saveNoSlot(Check c) {
        CnfXorSolver x = Calls.loaded("a;");
        for (int slot : NO_SLOTS) {
            c.isBadIndex("save(" + slot + ")", () -> x.save(slot));
        }
        c.isBadState("restore(0) is still empty", () -> x.restore(0));
        c.isBadState("restore(1) is still empty", () -> x.restore(1));
    }

    @Sentence(of = "Promise 35", says = "Replaces the state by the one in a slot,")
    static void replaces(Check c) {
        CnfXorSolver x = new CnfXorSolver();
        x.save(1);
        for (int i = 0; i < 24; i++) {
            x.addClause(1, 2);
        }
        x.decide(4);
        x.save(0);
        String saved = Calls.seen(x);
        x.restore(1);
        c.due("constraintCount() of the empty formula", x.constraintCount(), 0);
        c.due("level() without decisions", x.level(), 0);
        c.due("modelCount() of the empty formula", x.modelCount(), 256);
        x.addParity(1, 1);
        x.decide(15);
        x.restore(0);
        c.due("what is seen of 24 constraints and a decision", Calls.seen(x), saved);
    }

    @Sentence(of = "Promise 35", says = "and forgets all remembered states.")
    static void restoreForgets(Check c) {
        CnfXorSolver x = new CnfXorSolver();
        x.save(0);
        for (int i = 0; i < 15; i++) {
            x.addClause(1, 0);
        }
        x.restore(0);
        c.isBadState("undo() after restore", () -> x.undo());
        x.addClause(2, 0);
        c.due("undo() of an action since", x.undo(), 0);
        c.isBadState("undo() again", () -> x.undo());
    }

    @Sentence(of = "Promise 35", says = "The slot keeps its state.")
    static void slotKeeps(Check c) {
        CnfXorSolver x = Calls.loaded("ab;cd;");
        x.decide(1);
        x.save(0);
        for (int i = 0; i < 3; i++) {
            c.due("restore(0)", x.restore(0), 2);
            c.due("level() after restore", x.level(), 1);
            c.due("variables(0) after restore", x.variables(0), 3);
            x.removeConstraint(0);
            x.backtrack(0);
            x.addParity(4, 1);
            x.addParity(4, 0);
        }
        x.undo();
        c.due("restore(0) after undo", x.restore(0), 2);
    }

    @Sentence(of = "Promise 35", says = "`slot`: 0 or 1 Returns the number of constraints.")
    static void restoreReturns(Check c) {
        CnfXorSolver x = Calls.full();
        x.save(1);
        x.removeConstraint(0);
        x.save(0);
        c.due("restore(1)", x.restore(1), 24);
        c.due("restore(0)", x.restore(0), 23);
        CnfXorSolver none = new CnfXorSolver();
        none.save(1);
        none.addClause(0, 0);
        c.due("restore(1) of none", none.restore(1), 0);
    }

    @Sentence(of = "Promise 35", says = "Throws `IndexOutOfBoundsException` if there is no such slot")
    static void restoreNoSlot(Check c) {
        CnfXorSolver x = Calls.loaded("a;");
        for (int slot : NO_SLOTS) {
            c.isBadIndex("restore(" + slot + ") with empty slots", () -> x.restore(slot));
        }
        x.save(0);
        x.save(1);
        for (int slot : NO_SLOTS) {
            c.isBadIndex("restore(" + slot + ") with full slots", () -> x.restore(slot));
        }
    }

    @Sentence(of = "Promise 35", says = "Throws `IllegalStateException` if the slot is empty")
    static void restoreEmptySlot(Check c) {
        CnfXorSolver x = Calls.loaded("a;");
        c.isBadState("restore(0) of a new object", () -> x.restore(0));
        c.isBadState("restore(1) of a new object", () -> x.restore(1));
        x.save(0);
        c.isBadState("restore(1) beside a full slot", () -> x.restore(1));
        c.due("restore(0)", x.restore(0), 1);
        c.due("constraintCount()", x.constraintCount(), 1);
        x.load();
        c.isBadState("restore(0) after load", () -> x.restore(0));
    }
}
