/** Promises 2 to 5: the text buffer, its error position and load. */
public final class TextTest {
    private static final Check CHECK = new Check();

    public static void main(String[] args) {
        append();
        clearText();
        errorPositions();
        itemLimit();
        load();
        loadForgetsAndEmpties();
        CHECK.end();
    }

    private static void append() {
        CnfXorSolver x = new CnfXorSolver();
        CHECK.isBadArgument("P2 append(-1)", () -> x.append(-1));
        CHECK.isBadArgument("P2 append(256)", () -> x.append(256));
        CHECK.isBadArgument("P2 append(least)", () -> x.append(Integer.MIN_VALUE));
        CHECK.isBadArgument("P2 append(greatest)", () -> x.append(Integer.MAX_VALUE));
        CHECK.due("P2 append(0)", x.append(0), 1);
        CHECK.due("P2 append(255)", x.append(255), 2);
        for (int i = 3; i <= 90; i++) {
            CHECK.due("P2 append(97)", x.append(97), i);
        }
        CHECK.isBadState("P2 append(97) to a full text", () -> x.append(97));
        CHECK.isBadArgument("P2 append(256) to a full text", () -> x.append(256));
        CHECK.due("P3 clearText() of a full text", x.clearText(), 90);
        CHECK.due("P2 append(98) after clearText", x.append(98), 1);
    }

    private static void clearText() {
        CnfXorSolver x = Calls.loaded("ab;");
        CHECK.due("P3 clearText()", x.clearText(), 3);
        CHECK.due("P3 clearText() again", x.clearText(), 0);
        CHECK.due("P3 the formula stays", x.constraintCount(), 1);
        CHECK.due("P3 no text is a formula text", x.errorPosition(), CnfXorSolver.NONE);
        CHECK.isBadState("P3 clearText is no action", () -> x.undo());
    }

    private static void error(String text, int position) {
        CnfXorSolver x = Calls.withText(text);
        CHECK.due("P4 errorPosition() of " + text, x.errorPosition(), position);
        CHECK.due("P4 errorPosition() of " + text + " again", x.errorPosition(), position);
        if (position != CnfXorSolver.NONE) {
            CHECK.isBadState("P5 load() of " + text, () -> x.load());
        }
    }

    private static void errorPositions() {
        int none = CnfXorSolver.NONE;
        error("", none);
        error("a;", none);
        error("H;", none);
        error("aBcDeFgH;", none);
        error("=0a;", none);
        error("=1hgfedcba;", none);
        error("ab;=1cd;E;", none);
        error("a", 1);
        error("=", 1);
        error("=0", 2);
        error("=1ab", 4);
        error("a;B", 3);
        error("a;=", 3);
        error(";", 0);
        error("a;;", 2);
        error("=0;", 2);
        error("=1;a;", 2);
        error("=2a;", 1);
        error("=a;", 1);
        error("==0a;", 1);
        error("=;", 1);
        error("=00a;", 2);
        error("=0A;", 2);
        error("=0aB;", 3);
        error("=0aa;", 3);
        error("=0aba;", 4);
        error("=0a=;", 3);
        error("=0a1;", 3);
        error("aa;", 1);
        error("aA;", 1);
        error("Aa;", 1);
        error("AA;", 1);
        error("abca;", 3);
        error("abcdefgha;", 8);
        error("a=;", 1);
        error("a0;", 1);
        error("0;", 0);
        error("1", 0);
        error("i;", 0);
        error("I;", 0);
        error("ai;", 1);
        error("aI;", 1);
        error("`;", 0);
        error("@;", 0);
        error(" a;", 0);
        error("a ;", 1);
        error("a; b;", 2);
        error("a,b;", 1);
        error("a;\u0000", 2);
        error("a;\u00ff", 2);
        error("b;ab;a;a=", 8);
        error("=0h;=1i;", 6);
    }

    private static void itemLimit() {
        String most = "a;".repeat(24);
        error(most, CnfXorSolver.NONE);
        error(most + "a", 48);
        error(most + ";", 48);
        error(most + "=", 48);
        error(most + "a;a;", 48);
        error("a;".repeat(23) + "=0a;", CnfXorSolver.NONE);
        error("a;".repeat(23) + "=0a;b", 50);
        error("a;".repeat(23) + "ab", 48);
        error("a;".repeat(45), 48);
    }

    private static void load() {
        CnfXorSolver x = Calls.withText("aBH;=1ah;=0c;D;");
        CHECK.due("P5 load()", x.load(), 4);
        int[] first = {1, 129, 4, 0};
        int[] second = {130, 1, 0, 8};
        for (int i = 0; i < 4; i++) {
            CHECK.due("P5 variables(" + i + ")", x.variables(i), first[i]);
            CHECK.due("P5 negated(" + i + ")", x.negated(i), second[i]);
            CHECK.due("P5 isParity(" + i + ")", x.isParity(i), i == 1 || i == 2);
        }
        CHECK.due("P5 the trail is built: value(2)", x.value(2), CnfXorSolver.FALSE);
        CHECK.due("P5 load() again, as the text stays", x.load(), 4);
        CHECK.due("P5 constraintCount()", x.constraintCount(), 4);
        x.clearText();
        CHECK.due("P5 load() of no text", x.load(), 0);
        CHECK.due("P5 constraintCount() then", x.constraintCount(), 0);
        CHECK.due("P5 value(2) then", x.value(2), CnfXorSolver.UNASSIGNED);
        CHECK.due("P5 load() of 24 items", Calls.withText("a;".repeat(24)).load(), 24);
    }

    private static void loadForgetsAndEmpties() {
        CnfXorSolver x = Calls.withText("ab;");
        x.addClause(4, 0);
        x.decide(0);
        x.save(0);
        x.save(1);
        Calls.type(x, "?");
        String before = Calls.seen(x);
        CHECK.isBadState("P5 load() of a wrong text", () -> x.load());
        CHECK.due("P5 a refused load changes nothing", Calls.seen(x), before);
        CHECK.due("P5 a refused load keeps the slots", x.save(1), 1);
        CHECK.due("P5 a refused load forgets nothing", x.undo(), 1);
        x.clearText();
        Calls.type(x, "ab;");
        x.decide(6);
        CHECK.due("P19 level() before load", x.level(), 1);
        CHECK.due("P5 load()", x.load(), 1);
        CHECK.due("P5 no decisions", x.level(), 0);
        CHECK.due("P5 nothing assigned", x.value(0), CnfXorSolver.UNASSIGNED);
        CHECK.isBadState("P5 nothing remembered", () -> x.undo());
        CHECK.isBadState("P5 slot 0 is empty", () -> x.restore(0));
        CHECK.isBadState("P5 slot 1 is empty", () -> x.restore(1));
        CHECK.due("P5 the text stays", x.clearText(), 3);
    }
}
