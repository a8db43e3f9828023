/** The sentences of TEXT and of promises 2 to 5. */
final class TextSentences {
    private static final int NONE = CnfXorSolver.NONE;
    private static final String LETTERS = "abcdefghABCDEFGH";
    private static final int[] NO_CHARACTERS = {-1, 256, 353, 65633, Integer.MIN_VALUE, Integer.MAX_VALUE};

    private TextSentences() {
    }

    /** Sees that this text is a complete formula text of so many constraints. */
    private static void complete(Check c, String text, int count) {
        CnfXorSolver x = Calls.withText(text);
        c.due("errorPosition() of \"" + text + "\"", x.errorPosition(), NONE);
        c.due("load() of \"" + text + "\"", Check.outcome(() -> x.load()), Integer.toString(count));
    }

    private static void wrong(Check c, String text, int position) {
        CnfXorSolver x = Calls.withText(text);
        c.due("errorPosition() of \"" + text + "\"", x.errorPosition(), position);
        c.isBadState("load() of \"" + text + "\"", () -> x.load());
    }

    /** Sees which of the 256 characters may stand behind a beginning. */
    private static void allowed(Check c, String beginning, String characters) {
        for (int character = 0; character < 256; character++) {
            CnfXorSolver x = Calls.withText(beginning);
            x.append(character);
            int position = x.errorPosition();
            boolean isAllowed = position == NONE || position > beginning.length();
            boolean due = characters.indexOf((char) character) >= 0;
            c.due("\"" + beginning + "\" allows the character " + character + " behind it", isAllowed, due);
        }
    }

    @Sentence(of = "TEXT", says = "The object has a text buffer of at most 90 characters.")
    static void ninetyCharacters(Check c) {
        CnfXorSolver x = Calls.withText("abcdefgh;".repeat(10));
        c.isBadState("append(97) to 90 characters", () -> x.append(97));
        c.due("load() of 90 characters", x.load(), 10);
        c.due("variables(9)", x.variables(9), 255);
        c.due("clearText()", x.clearText(), 90);
    }

    @Sentence(of = "TEXT", says = "A formula text is a sequence of items (none or more, at most 24),")
    static void numberOfItems(Check c) {
        complete(c, "", 0);
        complete(c, "a;", 1);
        complete(c, "a;".repeat(23), 23);
        complete(c, "a;".repeat(24), 24);
        wrong(c, "a;".repeat(25), 48);
        complete(c, "=0a;".repeat(22), 22);
        complete(c, "a;".repeat(23) + "=0a;", 24);
    }

    @Sentence(of = "TEXT", says = "each ended by a semicolon.")
    static void endedBySemicolon(Check c) {
        complete(c, "a;=1b;C;", 3);
        wrong(c, "a;=1b;C", 7);
        wrong(c, "a;=1b", 5);
        wrong(c, "a;=1b:C;", 5);
        wrong(c, "a;".repeat(23) + "a", 47);
    }

    @Sentence(of = "TEXT", says = "An item is a clause, written as 1 to 8 letters for different variables:")
    static void lettersOfClause(Check c) {
        complete(c, "a;", 1);
        complete(c, "hgfedcba;", 1);
        complete(c, "aBcDeFgH;", 1);
        wrong(c, ";", 0);
        wrong(c, "abcdefgha;", 8);
        wrong(c, "aa;", 1);
        wrong(c, "aA;", 1);
        allowed(c, "", LETTERS + "=");
        allowed(c, "bD", "acefghACEFGH;");
        allowed(c, "abcdefgh", ";");
    }

    @Sentence(of = "TEXT", says = "a to h for the variables 0 to 7 in P,")
    static void smallLetters(Check c) {
        for (int v = 0; v < 8; v++) {
            CnfXorSolver x = Calls.loaded((char) ('a' + v) + ";");
            c.due("variables(0) of letter " + v, x.variables(0), 1 << v);
            c.due("negated(0) of letter " + v, x.negated(0), 0);
        }
        wrong(c, "i;", 0);
        wrong(c, "`;", 0);
        wrong(c, "ai;", 1);
        wrong(c, "a`;", 1);
    }

    @Sentence(of = "TEXT", says = "A to H for those in N;")
    static void capitalLetters(Check c) {
        for (int v = 0; v < 8; v++) {
            CnfXorSolver x = Calls.loaded((char) ('A' + v) + ";");
            c.due("variables(0) of letter " + v, x.variables(0), 0);
            c.due("negated(0) of letter " + v, x.negated(0), 1 << v);
        }
        wrong(c, "I;", 0);
        wrong(c, "@;", 0);
        wrong(c, "aI;", 1);
        wrong(c, "a@;", 1);
    }

    @Sentence(of = "TEXT", says = "or a parity, written as the character =, the bit (0 or 1)")
    static void equalsAndBit(Check c) {
        c.due("negated(0) of =0a;", Calls.loaded("=0a;").negated(0), 0);
        c.due("negated(0) of =1a;", Calls.loaded("=1a;").negated(0), 1);
        c.due("isParity(0) of =0a;", Calls.loaded("=0a;").isParity(0), true);
        allowed(c, "=", "01");
        wrong(c, "=2a;", 1);
        wrong(c, "=/a;", 1);
        wrong(c, "=a;", 1);
        wrong(c, "0a;", 0);
        wrong(c, "<0a;", 0);
        wrong(c, ">0a;", 0);
        wrong(c, "a=0b;", 1);
    }

    @Sentence(of = "TEXT", says = "and 1 to 8 letters from a to h for different variables.")
    static void lettersOfParity(Check c) {
        complete(c, "=0a;", 1);
        complete(c, "=1hgfedcba;", 1);
        c.due("variables(0) of =1hgfedcba;", Calls.loaded("=1hgfedcba;").variables(0), 255);
        wrong(c, "=0;", 2);
        wrong(c, "=0abcdefgha;", 10);
        wrong(c, "=0aa;", 3);
        wrong(c, "=0A;", 2);
        wrong(c, "=0aB;", 3);
        allowed(c, "=1", "abcdefgh");
        allowed(c, "=1bd", "acefgh;");
        allowed(c, "=0abcdefgh", ";");
    }

    @Sentence(of = "TEXT", says = "There are no separators.")
    static void noSeparators(Check c) {
        wrong(c, "a b;", 1);
        wrong(c, "a,b;", 1);
        wrong(c, "a; b;", 2);
        wrong(c, "a;\nb;", 2);
        wrong(c, " a;", 0);
        wrong(c, "= 0a;", 1);
        wrong(c, "=0 a;", 2);
        wrong(c, "a; ", 2);
        complete(c, "a;b;=0c;", 3);
    }

    @Sentence(of = "TEXT", says = "(So a semicolon must not stand at the beginning of an item,")
    static void noSemicolonAtBeginning(Check c) {
        wrong(c, ";", 0);
        wrong(c, ";a;", 0);
        wrong(c, "a;;", 2);
        wrong(c, "=0a;;b;", 4);
    }

    @Sentence(of = "TEXT", says = "nor directly behind the bit of a parity.)")
    static void noSemicolonBehindBit(Check c) {
        wrong(c, "=0;", 2);
        wrong(c, "=1;", 2);
        wrong(c, "a;=1;b;", 4);
    }

    @Sentence(of = "TEXT", says = "The text is read from left to right. The error position is the index of the first "
            + "character that these rules do not allow at its place")
    static void firstWrongCharacter(Check c) {
        wrong(c, "?", 0);
        wrong(c, "aa;bb;;=9", 1);
        wrong(c, "ab;;cc;", 3);
        wrong(c, "ab;=0cc", 6);
        wrong(c, "abcdefgh;".repeat(9) + "abcdefghi", 89);
        wrong(c, "abcdefgh;".repeat(9) + "abcdefgh?", 89);
        wrong(c, "a;\0", 2);
        wrong(c, "a;\u00ff", 2);
    }

    @Sentence(of = "TEXT", says = "(so a letter of a variable that is already in the item is an error,")
    static void letterTwice(Check c) {
        for (int v = 0; v < 8; v++) {
            char small = (char) ('a' + v);
            char capital = (char) ('A' + v);
            wrong(c, small + "" + small, 1);
            wrong(c, small + "" + capital, 1);
            wrong(c, capital + "" + small, 1);
            wrong(c, capital + "" + capital, 1);
            wrong(c, "=0" + small + small, 3);
        }
        wrong(c, "abcda;", 4);
        complete(c, "a;a;A;=0a;=1a;", 5);
    }

    @Sentence(of = "TEXT", says = "and so is every character behind the 24th item);")
    static void behindTheLastItem(Check c) {
        allowed(c, "a;".repeat(24), "");
        allowed(c, "a;".repeat(23), LETTERS + "=");
        wrong(c, "a;".repeat(24) + "b;", 48);
        wrong(c, "ab;".repeat(24) + "b;", 72);
    }

    @Sentence(of = "TEXT", says = "if the text ends in the middle of an item, it is the length of the text.")
    static void endsInTheMiddle(Check c) {
        wrong(c, "a", 1);
        wrong(c, "=", 1);
        wrong(c, "=0", 2);
        wrong(c, "=0a", 3);
        wrong(c, "a;B", 3);
        wrong(c, "abcdefgh", 8);
        wrong(c, "abcdefgh;".repeat(9) + "=0abcdefg", 90);
        complete(c, "a;", 1);
    }

    @Sentence(of = "Promise 2", says = "Appends a character to the text buffer.")
    static void appends(Check c) {
        CnfXorSolver x = Calls.withText("a");
        x.append(';');
        c.due("load() of a;", x.load(), 1);
        Calls.type(x, "=1bc;");
        c.due("load() of a;=1bc;", x.load(), 2);
        c.due("variables(1)", x.variables(1), 6);
    }

    @Sentence(of = "Promise 2", says = "`c`: character code, 0 to 255")
    static void allCharacters(Check c) {
        CnfXorSolver x = new CnfXorSolver();
        for (int character = 0; character < 256; character++) {
            c.due("append(" + character + ")", x.append(character), 1);
            x.clearText();
        }
    }

    @Sentence(of = "Promise 2", says = "Returns the new length of the text.")
    static void newLength(Check c) {
        CnfXorSolver x = new CnfXorSolver();
        for (int length = 1; length <= 90; length++) {
            c.due("append(63)", x.append(63), length);
        }
        x.clearText();
        c.due("append(63) after clearText", x.append(63), 1);
    }

    @Sentence(of = "Promise 2", says = "Throws `IllegalArgumentException` if c is out of range")
    static void noCharacter(Check c) {
        CnfXorSolver x = new CnfXorSolver();
        for (int character : NO_CHARACTERS) {
            c.isBadArgument("append(" + character + ")", () -> x.append(character));
        }
        c.due("clearText() then", x.clearText(), 0);
    }

    @Sentence(of = "Promise 2", says = "Throws `IllegalStateException` if the text already has 90 characters")
    static void fullText(Check c) {
        CnfXorSolver x = Calls.withText("?".repeat(89));
        c.due("append(63) to 89", x.append(63), 90);
        c.isBadState("append(63) to 90", () -> x.append(63));
        c.isBadState("append(0) to 90", () -> x.append(0));
        c.isBadState("append(255) to 90", () -> x.append(255));
        c.due("clearText()", x.clearText(), 90);
    }

    @Sentence(of = "Promise 3", says = "Empties the text buffer.")
    static void emptiesText(Check c) {
        CnfXorSolver x = Calls.withText("?".repeat(90));
        x.clearText();
        c.due("errorPosition()", x.errorPosition(), NONE);
        Calls.type(x, "b;");
        c.due("load() of b;", x.load(), 1);
        c.due("variables(0)", x.variables(0), 2);
    }

    @Sentence(of = "Promise 3", says = "Returns the previous length of the text.")
    static void previousLength(Check c) {
        CnfXorSolver x = new CnfXorSolver();
        c.due("clearText() of none", x.clearText(), 0);
        Calls.type(x, "?");
        c.due("clearText() of one", x.clearText(), 1);
        Calls.type(x, "?".repeat(90));
        c.due("clearText() of ninety", x.clearText(), 90);
        c.due("clearText() again", x.clearText(), 0);
    }

    @Sentence(of = "Promise 4", says = "Checks the text. Returns the error position of the text;")
    static void errorPosition(Check c) {
        wrong(c, "?", 0);
        wrong(c, "?".repeat(90), 0);
        wrong(c, "a", 1);
        CnfXorSolver x = Calls.withText("a");
        c.due("errorPosition() of a", x.errorPosition(), 1);
        Calls.type(x, ";?");
        c.due("errorPosition() of a;?", x.errorPosition(), 2);
        c.due("errorPosition() again", x.errorPosition(), 2);
        c.due("the formula stays", x.constraintCount(), 0);
    }

    @Sentence(of = "Promise 4", says = "NONE if it is a complete formula text.")
    static void noErrorPosition(Check c) {
        complete(c, "", 0);
        complete(c, "abcdefgh;".repeat(10), 10);
        complete(c, "=1abcdefg;".repeat(9), 9);
    }

    @Sentence(of = "Promise 5", says = "Replaces the formula by the one in the text, without decisions.")
    static void replacesFormula(Check c) {
        CnfXorSolver x = Calls.withText("=1bc;D;");
        for (int i = 0; i < 24; i++) {
            x.addClause(1, 0);
        }
        x.decide(2);
        x.load();
        c.due("constraintCount()", x.constraintCount(), 2);
        c.due("variables(0)", x.variables(0), 6);
        c.due("negated(1)", x.negated(1), 8);
        c.due("level()", x.level(), 0);
        c.due("value(1)", x.value(1), CnfXorSolver.UNASSIGNED);
        c.due("value(0)", x.value(0), CnfXorSolver.UNASSIGNED);
        x.clearText();
        c.due("load() of no text", x.load(), 0);
        c.due("constraintCount() then", x.constraintCount(), 0);
        c.due("modelCount() then", x.modelCount(), 256);
    }

    @Sentence(of = "Promise 5", says = "Forgets all remembered states")
    static void loadForgets(Check c) {
        CnfXorSolver x = Calls.withText("a;");
        for (int i = 0; i < 15; i++) {
            x.addClause(1, 0);
        }
        x.load();
        c.isBadState("undo() after load", () -> x.undo());
        x.addClause(2, 0);
        c.due("undo() of an action since", x.undo(), 0);
        c.isBadState("undo() again", () -> x.undo());
    }

    @Sentence(of = "Promise 5", says = "and empties both save slots.")
    static void loadEmptiesSlots(Check c) {
        CnfXorSolver x = Calls.withText("a;");
        x.save(0);
        x.save(1);
        x.load();
        c.isBadState("restore(0) after load", () -> x.restore(0));
        c.isBadState("restore(1) after load", () -> x.restore(1));
        x.save(1);
        c.due("restore(1) after a save", x.restore(1), 1);
        c.isBadState("restore(0) is still empty", () -> x.restore(0));
    }

    @Sentence(of = "Promise 5", says = "Keeps the text.")
    static void loadKeepsText(Check c) {
        CnfXorSolver x = Calls.withText("a;b;");
        c.due("load()", x.load(), 2);
        c.due("load() again", x.load(), 2);
        c.due("append(99)", x.append(99), 5);
        c.due("clearText()", x.clearText(), 5);
        CnfXorSolver full = Calls.withText("abcdefgh;".repeat(10));
        full.load();
        c.isBadState("append(97) to a full text after load", () -> full.append(97));
    }

    @Sentence(of = "Promise 5", says = "Returns the number of constraints.")
    static void loadReturns(Check c) {
        c.due("load() of none", new CnfXorSolver().load(), 0);
        c.due("load() of one", Calls.withText("=0abcdefgh;").load(), 1);
        c.due("load() of 24", Calls.withText("a;".repeat(24)).load(), 24);
    }

    @Sentence(of = "Promise 5", says = "Throws `IllegalStateException` if the text is not a complete formula text")
    static void loadOfWrongText(Check c) {
        for (String text : new String[] {"?", "a", "=", "=0", ";", "aa;", "=0;", "a;b", "a;".repeat(25), "?".repeat(90)}) {
            CnfXorSolver x = Calls.withText(text);
            x.addClause(3, 0);
            c.isBadState("load() of \"" + text + "\"", () -> x.load());
            c.due("constraintCount() then", x.constraintCount(), 1);
        }
    }
}
