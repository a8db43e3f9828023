/** The five examples of the document, call by call, and the constants. */
public final class ExamplesTest {
    private static final Check CHECK = new Check();

    public static void main(String[] args) {
        constants();
        decisionConflictAndLearnedClause();
        twoParities();
        formulaWithoutModel();
        variableTwiceInClause();
        paritiesWithoutCommonSolution();
        CHECK.end();
    }

    private static void constants() {
        CHECK.due("NONE", CnfXorSolver.NONE, -9);
        CHECK.due("FALSE", CnfXorSolver.FALSE, 0);
        CHECK.due("TRUE", CnfXorSolver.TRUE, 1);
        CHECK.due("UNASSIGNED", CnfXorSolver.UNASSIGNED, 2);
    }

    private static void append(CnfXorSolver x, int... characters) {
        for (int i = 0; i < characters.length; i++) {
            CHECK.due("append(" + characters[i] + ")", x.append(characters[i]), i + 1);
        }
    }

    private static void decisionConflictAndLearnedClause() {
        CnfXorSolver x = new CnfXorSolver();
        append(x, 97, 98, 59, 97, 66, 59);
        CHECK.due("1 load()", x.load(), 2);
        CHECK.due("1 decide(1)", x.decide(1), 2);
        CHECK.due("1 value(1)", x.value(1), 1);
        CHECK.due("1 conflict()", x.conflict(), 1);
        CHECK.due("1 learnedClause()", x.learnedClause(), 1);
        CHECK.due("1 learn()", x.learn(), 0);
        CHECK.due("1 value(0)", x.value(0), 1);
        CHECK.due("1 reason(0)", x.reason(0), 2);
        CHECK.due("1 constraintCount()", x.constraintCount(), 3);
    }

    private static void twoParities() {
        CnfXorSolver x = new CnfXorSolver();
        append(x, 61, 49, 97, 98, 59, 61, 48, 98, 99, 59);
        CHECK.due("2 load()", x.load(), 2);
        CHECK.due("2 rank()", x.rank(), 2);
        CHECK.due("2 eliminatedRow(0)", x.eliminatedRow(0), 261);
        CHECK.due("2 sum(0, 1)", x.sum(0, 1), 2);
    }

    private static void formulaWithoutModel() {
        CnfXorSolver x = new CnfXorSolver();
        CHECK.due("3 addClause(1, 0)", x.addClause(1, 0), 0);
        CHECK.due("3 addClause(0, 1)", x.addClause(0, 1), 1);
        CHECK.due("3 conflict()", x.conflict(), 1);
        CHECK.due("3 core()", x.core(), 3);
        CHECK.due("3 resolve(0, 1, 0)", x.resolve(0, 1, 0), 2);
        CHECK.due("3 solve()", x.solve(), -1);
        CHECK.due("3 modelCount()", x.modelCount(), 0);
        CHECK.isBadState("3 learn()", () -> x.learn());
    }

    private static void variableTwiceInClause() {
        CnfXorSolver x = new CnfXorSolver();
        append(x, 97, 97, 59);
        CHECK.due("4 errorPosition()", x.errorPosition(), 1);
        CHECK.isBadState("4 load()", () -> x.load());
    }

    private static void paritiesWithoutCommonSolution() {
        CnfXorSolver x = new CnfXorSolver();
        CHECK.due("5 addParity(3, 1)", x.addParity(3, 1), 0);
        CHECK.due("5 addParity(3, 0)", x.addParity(3, 0), 1);
        CHECK.due("5 isConsistent()", x.isConsistent(), false);
        CHECK.isBadState("5 eliminatedRow(0)", () -> x.eliminatedRow(0));
        CHECK.due("5 rank()", x.rank(), 1);
    }
}
