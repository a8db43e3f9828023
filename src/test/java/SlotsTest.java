/** Promises 34 and 35: the save slots. */
public final class SlotsTest {
    private static final Check CHECK = new Check();

    public static void main(String[] args) {
        refused();
        saveAndRestore();
        slotKeepsItsState();
        decisionsComeBack();
        restoreForgets();
        CHECK.end();
    }

    private static void refused() {
        CnfXorSolver x = new CnfXorSolver();
        for (int slot : new int[] {-1, 2, Integer.MIN_VALUE, Integer.MAX_VALUE}) {
            CHECK.isBadIndex("P34 save(" + slot + ")", () -> x.save(slot));
            CHECK.isBadIndex("P35 restore(" + slot + ")", () -> x.restore(slot));
        }
        CHECK.isBadState("P35 restore(0) of an empty slot", () -> x.restore(0));
        CHECK.isBadState("P35 restore(1) of an empty slot", () -> x.restore(1));
        CHECK.due("P34 save(1)", x.save(1), 0);
        CHECK.isBadState("P35 restore(0) is still empty", () -> x.restore(0));
        CHECK.due("P35 restore(1) of an empty formula", x.restore(1), 0);
        x.addClause(1, 0);
        CHECK.isBadState("P35 a refused restore", () -> x.restore(0));
        CHECK.due("P35 forgets nothing", x.undo(), 0);
    }

    private static void saveAndRestore() {
        CnfXorSolver x = Calls.loaded("Ab;=1bc;gh;");
        x.decide(0);
        x.decide(13);
        String before = Calls.seen(x);
        CHECK.due("P34 save(0)", x.save(0), 3);
        CHECK.due("P34 save changes nothing", Calls.seen(x), before);
        CHECK.due("P34 save is no action", x.undo(), 1);
        CHECK.due("P34 save(1)", x.save(1), 3);
        String other = Calls.seen(x);
        x.removeConstraint(0);
        x.addParity(3, 0);
        x.addParity(3, 1);
        CHECK.due("P35 restore(0)", x.restore(0), 3);
        CHECK.due("P35 what was saved is seen", Calls.seen(x), before);
        CHECK.due("P35 restore(1)", x.restore(1), 3);
        CHECK.due("P35 the other state is seen", Calls.seen(x), other);
        CHECK.due("P35 level()", x.level(), 1);
    }

    private static void slotKeepsItsState() {
        CnfXorSolver x = Calls.loaded("ab;");
        x.decide(1);
        x.save(0);
        String saved = Calls.seen(x);
        for (int i = 0; i < 3; i++) {
            x.restore(0);
            CHECK.due("P35 the slot keeps its state", Calls.seen(x), saved);
            x.backtrack(0);
            x.addClause(0, 3);
            x.removeConstraint(0);
        }
        CHECK.due("P34 save(0) over the old state", x.save(0), 1);
        x.removeConstraint(0);
        CHECK.due("P35 restore(0)", x.restore(0), 1);
        CHECK.due("P35 negated(0)", x.negated(0), 3);
    }

    private static void decisionsComeBack() {
        CnfXorSolver x = new CnfXorSolver();
        x.decide(0);
        x.decide(3);
        x.save(0);
        x.backtrack(0);
        x.decide(14);
        x.decide(12);
        x.decide(10);
        x.undo();
        CHECK.due("P18 value(7) after undo", x.value(7), CnfXorSolver.TRUE);
        x.undo();
        x.undo();
        x.undo();
        CHECK.due("P18 value(0) after undo", x.value(0), CnfXorSolver.TRUE);
        CHECK.due("P18 trailLiteral(1) after undo", x.trailLiteral(1), 3);
        x.backtrack(0);
        x.decide(9);
        x.restore(0);
        CHECK.due("P35 level()", x.level(), 2);
        CHECK.due("P35 trailLiteral(0)", x.trailLiteral(0), 0);
        CHECK.due("P35 trailLiteral(1)", x.trailLiteral(1), 3);
        CHECK.due("P35 value(4)", x.value(4), CnfXorSolver.UNASSIGNED);
    }

    private static void restoreForgets() {
        CnfXorSolver x = Calls.withText("h;");
        x.addClause(1, 0);
        x.addClause(2, 0);
        x.save(1);
        x.addClause(4, 0);
        CHECK.due("P35 restore(1)", x.restore(1), 2);
        CHECK.isBadState("P35 nothing is remembered", () -> x.undo());
        CHECK.due("P35 the text stays", x.clearText(), 2);
        x.decide(5);
        CHECK.due("P35 undo() of an action since", x.undo(), 0);
        CHECK.due("P35 level()", x.level(), 0);
    }
}
