/** The sentences of ELIMINATION and of promises 30 to 32. */
final class EliminationSentences {
    private static final int NONE = CnfXorSolver.NONE;

    private EliminationSentences() {
    }

    /** Sees that these rows, and no others, are the eliminated system. */
    private static void rows(Check c, String text, int... rows) {
        CnfXorSolver x = Calls.loaded(text);
        for (int i = 0; i < rows.length; i++) {
            c.due("eliminatedRow(" + i + ") of " + text, x.eliminatedRow(i), rows[i]);
        }
        c.due("eliminatedRow(" + rows.length + ") of " + text, x.eliminatedRow(rows.length), NONE);
        c.due("rank() of " + text, x.rank(), rows.length);
        c.due("isConsistent() of " + text, x.isConsistent(), true);
    }

    private static void inconsistent(Check c, String text, int rank) {
        CnfXorSolver x = Calls.loaded(text);
        c.due("isConsistent() of " + text, x.isConsistent(), false);
        c.due("rank() of " + text, x.rank(), rank);
        c.isBadState("eliminatedRow(0) of " + text, () -> x.eliminatedRow(0));
    }

    @Sentence(of = "ELIMINATION", says = "The eliminated system is the reduced row echelon form of all parities of the "
            + "formula, as linear equations over two elements, with the variables in ascending order:")
    static void reducedForm(Check c) {
        rows(c, "");
        rows(c, "a;B;ab;");
        rows(c, "=1abcdefgh;", 256 + 255);
        rows(c, "=1abc;=1bc;=0c;", 1, 256 + 2, 4);
        rows(c, "=1h;" + "a;".repeat(22) + "=0gh;", 256 + 64, 256 + 128);
        rows(c, "=1a;a;A;=0b;", 256 + 1, 2);
    }

    @Sentence(of = "ELIMINATION", says = "its rows are parities with the same common solutions as the parities of the formula;")
    static void sameSolutions(Check c) {
        String[] texts = {"=1abc;=0bcd;=1adh;", "=1ab;=1bc;=0ac;=1gh;", "=0abcdefgh;=1aceg;=1h;", "=1a;=1a;=0bh;=0bh;"};
        for (String text : texts) {
            CnfXorSolver x = Calls.loaded(text);
            CnfXorSolver rows = new CnfXorSolver();
            for (int i = 0; i < x.rank(); i++) {
                rows.addParity(x.eliminatedRow(i) % 256, x.eliminatedRow(i) / 256);
            }
            c.due("the models of the rows of " + text, rows.modelCount(), x.modelCount());
            for (int i = 0; i < x.modelCount() && i < 70; i++) {
                c.due("model(" + i + ") of the rows of " + text, rows.model(i), x.model(i));
            }
        }
        rows(c, "=1ab;=1ab;=1ab;", 256 + 3);
        CnfXorSolver zero = new CnfXorSolver();
        zero.addParity(0, 0);
        c.due("rank() of 0 = 0", zero.rank(), 0);
        c.due("eliminatedRow(0) of 0 = 0", zero.eliminatedRow(0), NONE);
    }

    @Sentence(of = "ELIMINATION", says = "the first (smallest) variable of each row, its pivot, is in no other row;")
    static void pivotsAreAlone(Check c) {
        rows(c, "=0ab;=0bc;=0cd;", 9, 10, 12);
        rows(c, "=0cd;=0bc;=0ab;", 9, 10, 12);
        rows(c, "=0ab;=1b;", 256 + 1, 256 + 2);
        rows(c, "=1b;=0ab;", 256 + 1, 256 + 2);
        rows(c, "=0ah;=0bh;=1h;", 256 + 1, 256 + 2, 256 + 128);
    }

    @Sentence(of = "ELIMINATION", says = "the rows are ordered by ascending pivots.")
    static void ascendingPivots(Check c) {
        rows(c, "=1h;=0c;=1e;=0a;", 1, 4, 256 + 16, 256 + 128);
        rows(c, "=0gh;=0bh;=0dh;", 130, 136, 192);
    }

    @Sentence(of = "ELIMINATION", says = "If the parities have no common solution, the rows are those of the left sides alone "
            + "(with the bits that result from the elimination not being defined): then no row can be asked for.")
    static void leftSides(Check c) {
        inconsistent(c, "=1ab;=0ab;", 1);
        inconsistent(c, "=1a;=0a;=1h;=0bc;", 3);
        inconsistent(c, "=1ab;=1bc;=1ac;", 2);
        inconsistent(c, "=0a;=0b;=0c;=0d;=0e;=0f;=0g;=0h;=1abcdefgh;", 8);
        CnfXorSolver zero = new CnfXorSolver();
        zero.addParity(0, 1);
        c.due("rank() of 0 = 1", zero.rank(), 0);
        c.isBadState("eliminatedRow(0) of 0 = 1", () -> zero.eliminatedRow(0));
        zero.addParity(3, 1);
        c.due("rank() of 0 = 1 and a + b = 1", zero.rank(), 1);
    }

    @Sentence(of = "Promise 30", says = "Returns the number of rows of the eliminated system.")
    static void rank(Check c) {
        c.due("rank() of no constraints", new CnfXorSolver().rank(), 0);
        c.due("rank() of clauses", Calls.full().rank(), 0);
        CnfXorSolver x = new CnfXorSolver();
        for (int v = 0; v < 8; v++) {
            x.addParity(255 << v & 255, v & 1);
            c.due("rank() of " + (v + 1), x.rank(), v + 1);
        }
        for (int i = 8; i < 24; i++) {
            x.addParity(i, 1);
            c.due("rank() is at most 8", x.rank(), 8);
        }
    }

    @Sentence(of = "Promise 31", says = "Returns true if the parities of the formula have a common solution.")
    static void isConsistent(Check c) {
        c.due("isConsistent() of no constraints", new CnfXorSolver().isConsistent(), true);
        c.due("isConsistent() of clauses without a model", Calls.loaded("a;A;").isConsistent(), true);
        c.due("isConsistent() of parities that clauses exclude", Calls.loaded("=1ab;AB;aB;Ab;").isConsistent(), true);
        c.due("isConsistent() of =1a;=0a;", Calls.loaded("=1a;=0a;").isConsistent(), false);
        CnfXorSolver x = new CnfXorSolver();
        x.addParity(0, 1);
        c.due("isConsistent() of 0 = 1", x.isConsistent(), false);
        x.addParity(0, 0);
        c.due("isConsistent() of 0 = 1 and 0 = 0", x.isConsistent(), false);
        x.removeConstraint(0);
        c.due("isConsistent() of 0 = 0", x.isConsistent(), true);
        CnfXorSolver last = Calls.loaded("=1h;" + "a;".repeat(22) + "=0h;");
        c.due("isConsistent() of the first and the last", last.isConsistent(), false);
    }

    @Sentence(of = "Promise 32", says = "Returns a row of the eliminated system as 256 * bit + M. - `i`: index of the row, "
            + "from 0 Returns that number;")
    static void rowAsNumber(Check c) {
        c.due("eliminatedRow(0) of =0a;", Calls.loaded("=0a;").eliminatedRow(0), 1);
        c.due("eliminatedRow(0) of =1a;", Calls.loaded("=1a;").eliminatedRow(0), 257);
        c.due("eliminatedRow(0) of =0abcdefgh;", Calls.loaded("=0abcdefgh;").eliminatedRow(0), 255);
        c.due("eliminatedRow(0) of =1abcdefgh;", Calls.loaded("=1abcdefgh;").eliminatedRow(0), 511);
        rows(c, "=1a;=0b;=1c;=0d;=1e;=0f;=1g;=0h;", 257, 2, 260, 8, 272, 32, 320, 128);
    }

    @Sentence(of = "Promise 32", says = "NONE if there is no such row")
    static void noSuchRow(Check c) {
        CnfXorSolver x = Calls.loaded("=1ab;=0ch;");
        for (int i : new int[] {-1, 2, 3, 7, 8, 32, Integer.MIN_VALUE, Integer.MAX_VALUE}) {
            c.due("eliminatedRow(" + i + ") of two", x.eliminatedRow(i), NONE);
        }
        c.due("eliminatedRow(0) of none", new CnfXorSolver().eliminatedRow(0), NONE);
        CnfXorSolver all = Calls.loaded("=1a;=0b;=1c;=0d;=1e;=0f;=1g;=0h;");
        c.due("eliminatedRow(8) of eight", all.eliminatedRow(8), NONE);
        c.due("eliminatedRow(-1) of eight", all.eliminatedRow(-1), NONE);
    }

    @Sentence(of = "Promise 32", says = "(the exception goes first).")
    static void exceptionGoesFirst(Check c) {
        CnfXorSolver x = Calls.loaded("=1ab;=0ab;");
        for (int i : new int[] {-1, 1, 2, 8, Integer.MIN_VALUE, Integer.MAX_VALUE}) {
            c.isBadState("eliminatedRow(" + i + ")", () -> x.eliminatedRow(i));
        }
    }

    @Sentence(of = "Promise 32", says = "Throws `IllegalStateException` if the parities have no common solution")
    static void noCommonSolution(Check c) {
        CnfXorSolver x = Calls.loaded("=1c;=1ab;=0ab;");
        c.isBadState("eliminatedRow(0)", () -> x.eliminatedRow(0));
        c.isBadState("eliminatedRow(1)", () -> x.eliminatedRow(1));
        x.removeConstraint(1);
        c.due("eliminatedRow(0) then", x.eliminatedRow(0), 3);
        c.due("eliminatedRow(0) of clauses without a model", Calls.loaded("a;A;=1b;").eliminatedRow(0), 258);
    }
}
