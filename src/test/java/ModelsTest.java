/** Promises 25 to 33: models, implication, cores, elimination and solving. */
public final class ModelsTest {
    private static final Check CHECK = new Check();
    private static final int NONE = CnfXorSolver.NONE;

    public static void main(String[] args) {
        models();
        decisionsDoNotMatter();
        impliesClause();
        impliesParity();
        core();
        rankAndRows();
        inconsistent();
        solve();
        solveWithFullFormula();
        questionsAreNoActions();
        CHECK.end();
    }

    private static void models() {
        CnfXorSolver x = new CnfXorSolver();
        CHECK.due("P25 modelCount() of no constraints", x.modelCount(), 256);
        CHECK.due("P26 model(0)", x.model(0), 0);
        CHECK.due("P26 model(255)", x.model(255), 255);
        CHECK.due("P26 model(256)", x.model(256), NONE);
        CHECK.due("P26 model(-1)", x.model(-1), NONE);
        CHECK.due("P26 model(least)", x.model(Integer.MIN_VALUE), NONE);
        CHECK.due("P26 model(greatest)", x.model(Integer.MAX_VALUE), NONE);
        x.addClause(1, 128);
        CHECK.due("P25 modelCount() of aH", x.modelCount(), 192);
        x.addParity(255, 1);
        CHECK.due("P25 modelCount() of aH and an odd parity", x.modelCount(), 96);
        CHECK.due("P26 model(0)", x.model(0), 1);
        CHECK.due("P26 model(1)", x.model(1), 2);
        CHECK.due("P26 model(95)", x.model(95), 253);
        CHECK.due("P26 model(96)", x.model(96), NONE);
        x.addClause(0, 0);
        CHECK.due("P25 modelCount() with the empty clause", x.modelCount(), 0);
        CHECK.due("P26 model(0) then", x.model(0), NONE);
        x.undo();
        CHECK.due("P25 modelCount() after undo", x.modelCount(), 96);
        CHECK.due("P25 modelCount() of =0a..h", Calls.loaded("=0abcdefgh;").modelCount(), 128);
        CHECK.due("P25 modelCount() of one model", Calls.loaded("a;b;c;d;E;F;G;H;").modelCount(), 1);
        CnfXorSolver zero = Calls.loaded("A;B;C;D;E;F;G;H;");
        CHECK.due("P25 modelCount() of all false", zero.modelCount(), 1);
        CHECK.due("P26 model(0) of all false", zero.model(0), 0);
        CHECK.due("P29 core() of all false", zero.core(), NONE);
        CHECK.due("P27 impliesClause(255, 0) of all false", zero.impliesClause(255, 0), false);
        CHECK.due("P28 impliesParity(255, 1) of all false", zero.impliesParity(255, 1), false);
        CnfXorSolver last = Calls.loaded("a;b;c;d;e;f;g;h;");
        CHECK.due("P26 model(0) of all true", last.model(0), 255);
        CHECK.due("P29 core() of all true", last.core(), NONE);
        CHECK.due("P27 impliesClause(0, 255) of all true", last.impliesClause(0, 255), false);
        CHECK.due("P26 model(0) of it", Calls.loaded("a;b;c;d;E;F;G;H;").model(0), 15);
    }

    private static void decisionsDoNotMatter() {
        CnfXorSolver x = Calls.loaded("ab;");
        x.decide(1);
        x.decide(5);
        CHECK.due("P25 modelCount()", x.modelCount(), 192);
        CHECK.due("P26 model(0)", x.model(0), 1);
        CHECK.due("P27 impliesClause(2, 0)", x.impliesClause(2, 0), false);
        CHECK.due("P28 impliesParity(1, 0)", x.impliesParity(1, 0), false);
        CHECK.due("P29 core()", x.core(), NONE);
        CHECK.due("P33 solve()", x.solve(), 0);
        CHECK.due("P19 level() stays", x.level(), 2);
    }

    private static void impliesClause() {
        CnfXorSolver x = Calls.loaded("ab;Ac;");
        CHECK.due("P27 impliesClause(6, 0)", x.impliesClause(6, 0), true);
        CHECK.due("P27 impliesClause(3, 0)", x.impliesClause(3, 0), true);
        CHECK.due("P27 impliesClause(7, 128)", x.impliesClause(7, 128), true);
        CHECK.due("P27 impliesClause(4, 1)", x.impliesClause(4, 1), true);
        CHECK.due("P27 impliesClause(4, 0)", x.impliesClause(4, 0), false);
        CHECK.due("P27 impliesClause(1, 4)", x.impliesClause(1, 4), false);
        CHECK.due("P27 impliesClause(0, 0)", x.impliesClause(0, 0), false);
        for (int bad : new int[] {-1, 256, Integer.MIN_VALUE, Integer.MAX_VALUE}) {
            CHECK.isBadArgument("P27 impliesClause(" + bad + ", 0)", () -> x.impliesClause(bad, 0) ? 1 : 0);
            CHECK.isBadArgument("P27 impliesClause(0, " + bad + ")", () -> x.impliesClause(0, bad) ? 1 : 0);
        }
        CHECK.isBadArgument("P27 impliesClause(6, 4)", () -> x.impliesClause(6, 4) ? 1 : 0);
        CnfXorSolver full = Calls.full();
        CHECK.due("P27 impliesClause(1, 2) of 24", full.impliesClause(1, 2), true);
        x.addClause(0, 0);
        CHECK.due("P27 no model implies all", x.impliesClause(0, 0), true);
    }

    private static void impliesParity() {
        CnfXorSolver x = Calls.loaded("=1ab;=1bc;");
        CHECK.due("P28 impliesParity(5, 0)", x.impliesParity(5, 0), true);
        CHECK.due("P28 impliesParity(5, 1)", x.impliesParity(5, 1), false);
        CHECK.due("P28 impliesParity(3, 1)", x.impliesParity(3, 1), true);
        CHECK.due("P28 impliesParity(1, 0)", x.impliesParity(1, 0), false);
        CHECK.due("P28 impliesParity(1, 1)", x.impliesParity(1, 1), false);
        CHECK.due("P28 impliesParity(0, 0)", x.impliesParity(0, 0), true);
        CHECK.due("P28 impliesParity(0, 1)", x.impliesParity(0, 1), false);
        for (int bad : new int[] {-1, 256, Integer.MIN_VALUE, Integer.MAX_VALUE}) {
            CHECK.isBadArgument("P28 impliesParity(" + bad + ", 0)", () -> x.impliesParity(bad, 0) ? 1 : 0);
        }
        for (int bad : new int[] {-1, 2, Integer.MIN_VALUE, Integer.MAX_VALUE}) {
            CHECK.isBadArgument("P28 impliesParity(1, " + bad + ")", () -> x.impliesParity(1, bad) ? 1 : 0);
        }
        CnfXorSolver clauses = Calls.loaded("ab;AB;");
        CHECK.due("P28 clauses imply a parity", clauses.impliesParity(3, 1), true);
        x.addParity(0, 1);
        CHECK.due("P28 no model implies all", x.impliesParity(0, 1), true);
    }

    private static void core() {
        CHECK.due("P29 core() of a satisfiable formula", Calls.loaded("a;B;").core(), NONE);
        CHECK.due("P29 core(): the later ones are left", Calls.loaded("a;A;b;B;").core(), 12);
        CHECK.due("P29 core() of a;b;A;", Calls.loaded("a;b;A;").core(), 5);
        CHECK.due("P29 core() of parities", Calls.loaded("h;=1ab;=1bc;c;=1ac;").core(), 22);
        CnfXorSolver x = Calls.loaded("a;A;");
        x.addClause(0, 0);
        CHECK.due("P29 core(): the empty clause alone", x.core(), 4);
        CnfXorSolver full = Calls.loaded("ab;".repeat(22) + "c;C;");
        CHECK.due("P29 core() of 24", full.core(), 3 << 22);
        full.removeConstraint(0);
        full.addClause(0, 0);
        CHECK.due("P29 core(): constraint 23", full.core(), 1 << 23);
    }

    private static void rankAndRows() {
        CnfXorSolver x = Calls.loaded("ab;=1bcd;=0abc;=1ad;=1h;=0cdh;");
        CHECK.due("P30 rank()", x.rank(), 4);
        CHECK.due("P31 isConsistent()", x.isConsistent(), true);
        int[] rows = {256 * 1 + 8 + 1, 256 * 0 + 2, 256 * 1 + 8 + 4, 256 * 1 + 128};
        for (int i = 0; i < 4; i++) {
            CHECK.due("P32 eliminatedRow(" + i + ")", x.eliminatedRow(i), rows[i]);
        }
        CHECK.due("P32 eliminatedRow(4)", x.eliminatedRow(4), NONE);
        CHECK.due("P32 eliminatedRow(-1)", x.eliminatedRow(-1), NONE);
        CHECK.due("P32 eliminatedRow(least)", x.eliminatedRow(Integer.MIN_VALUE), NONE);
        CHECK.due("P32 eliminatedRow(greatest)", x.eliminatedRow(Integer.MAX_VALUE), NONE);
        x.removeConstraint(5);
        CHECK.due("P32 eliminatedRow(1) after a removal", x.eliminatedRow(1), 256 * 1 + 8 + 4 + 2);
        CHECK.due("P32 eliminatedRow(3) after a removal", x.eliminatedRow(3), NONE);
        x.addParity(8, 0);
        CHECK.due("P31 isConsistent() with d = 0", x.isConsistent(), true);
        x.addParity(8, 1);
        CHECK.isBadState("P32 eliminatedRow(0) with d = 0 and d = 1", () -> x.eliminatedRow(0));
        CnfXorSolver clauses = Calls.loaded("a;A;");
        CHECK.due("P30 rank() of clauses", clauses.rank(), 0);
        CHECK.due("P31 isConsistent() of clauses", clauses.isConsistent(), true);
        CHECK.due("P32 eliminatedRow(0) of clauses", clauses.eliminatedRow(0), NONE);
        CnfXorSolver all = Calls.loaded("=1h;=0gh;=1fg;=0ef;=1de;=0cd;=1bc;=0ab;");
        CHECK.due("P30 rank() of eight", all.rank(), 8);
        int bits = 0;
        for (int v = 0; v < 8; v++) {
            bits |= (all.eliminatedRow(v) >> 8) << v;
            CHECK.due("P32 eliminatedRow(" + v + ") of eight", all.eliminatedRow(v) & 255, 1 << v);
        }
        CHECK.due("P32 the rows are the model", bits, all.model(0));
        CnfXorSolver zero = new CnfXorSolver();
        zero.addParity(0, 0);
        CHECK.due("P30 rank() of 0 = 0", zero.rank(), 0);
        CHECK.due("P31 isConsistent() of 0 = 0", zero.isConsistent(), true);
    }

    private static void inconsistent() {
        CnfXorSolver x = Calls.loaded("=1ab;=1bc;=1ac;=0de;");
        CHECK.due("P31 isConsistent()", x.isConsistent(), false);
        CHECK.due("P30 rank()", x.rank(), 3);
        CHECK.isBadState("P32 eliminatedRow(0)", () -> x.eliminatedRow(0));
        CHECK.isBadState("P32 eliminatedRow(3): the exception goes first", () -> x.eliminatedRow(3));
        CHECK.isBadState("P32 eliminatedRow(-1): the exception goes first", () -> x.eliminatedRow(-1));
        x.removeConstraint(1);
        CHECK.due("P31 isConsistent() then", x.isConsistent(), true);
        CHECK.due("P32 eliminatedRow(2)", x.eliminatedRow(2), 24);
        CnfXorSolver zero = new CnfXorSolver();
        zero.addParity(0, 1);
        CHECK.due("P31 isConsistent() of 0 = 1", zero.isConsistent(), false);
        CHECK.due("P30 rank() of 0 = 1", zero.rank(), 0);
        zero.addParity(6, 1);
        CHECK.due("P30 rank() goes on behind 0 = 1", zero.rank(), 1);
    }

    private static void solve() {
        CHECK.due("P33 solve() of a conflict at level 0", Calls.loaded("a;A;").solve(), -1);
        // with a decided false, or a later variable decided first, there would be no conflict
        CHECK.due("P33 solve() of AB;Ab;", Calls.loaded("AB;Ab;").solve(), 1);
        CHECK.due("P33 solve() of all four", Calls.loaded("AB;Ab;aB;ab;").solve(), -2);
        CnfXorSolver x = Calls.loaded("=1ab;=1bc;AC;");
        String before = Calls.seen(x);
        CHECK.due("P33 solve() of parities and a clause", x.solve(), 1);
        CHECK.due("P33 solve() changes nothing", Calls.seen(x), before);
        CHECK.isBadState("P33 solve() is no action", () -> x.undo());
        CHECK.due("P33 solve() without a conflict", Calls.loaded("Ab;Bc;Cd;De;Ef;Fg;Gh;").solve(), 0);
    }

    private static void solveWithFullFormula() {
        CnfXorSolver x = Calls.loaded("AB;Ab;" + "gh;".repeat(21));
        CHECK.due("P33 solve() with room for one", x.solve(), 1);
        x.addClause(192, 0);
        CHECK.due("P33 solve() with room for none", x.solve(), -90);
        CnfXorSolver two = Calls.loaded("AB;Ab;Cd;CD;" + "gh;".repeat(19));
        CHECK.due("P33 solve() with room for one of two", two.solve(), -90);
        two.removeConstraint(22);
        CHECK.due("P33 solve() with room for two", two.solve(), 2);
        CHECK.due("P33 solve() of 24 without conflict", Calls.full().solve(), 0);
        CHECK.due("P33 solve() of 24, conflict at level 0", Calls.loaded("a;A;" + "g;".repeat(22)).solve(), -1);
    }

    private static void questionsAreNoActions() {
        CnfXorSolver x = Calls.loaded("ab;=1cd;");
        x.impliesClause(1, 2);
        x.impliesParity(1, 1);
        x.core();
        x.solve();
        x.save(0);
        x.rank();
        CHECK.isBadState("UNDO questions and save are no actions", () -> x.undo());
    }
}
