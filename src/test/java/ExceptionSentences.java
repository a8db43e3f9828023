/** The sentences of EXCEPTIONS. */
final class ExceptionSentences {
    private static final String INDEX = "IndexOutOfBoundsException", ARGUMENT = "IllegalArgumentException",
            STATE = "IllegalStateException";

    interface Call {
        long on(CnfXorSolver x);
    }

    /** The object that calls are made on, made anew for each of them. */
    interface Maker {
        CnfXorSolver make();
    }

    private ExceptionSentences() {
    }

    /** Sees that a call throws this exception, and that it leaves no trace. */
    private static void thrown(Check c, String exception, Maker maker, String name, Call call) {
        CnfXorSolver x = maker.make();
        c.due(name, Check.outcome(() -> call.on(x)), exception);
        c.due("the object after " + name, Calls.story(x), Calls.story(maker.make()));
    }

    /** Remembered actions, a slot with another state, an incomplete text, a decision, no conflict. */
    private static CnfXorSolver busy() {
        CnfXorSolver x = Calls.loaded("ab;Ab;=1cd;=0ch;");
        x.append('a');
        x.save(1);
        x.addClause(64, 32);
        x.decide(13);
        return x;
    }

    /** 24 constraints, a conflict at level 1, a full text. */
    private static CnfXorSolver full() {
        CnfXorSolver x = Calls.loaded("Ab;AB;b;=1cd;=1de;" + "gh;".repeat(18));
        x.removeConstraint(2);
        x.addParity(160, 1);
        x.addParity(96, 0);
        x.decide(0);
        Calls.type(x, "?".repeat(18));
        return x;
    }

    private static void index(Check c, String name, Call call) {
        thrown(c, INDEX, ExceptionSentences::busy, name, call);
    }

    private static void argument(Check c, String name, Call call) {
        thrown(c, ARGUMENT, ExceptionSentences::busy, name, call);
    }

    private static void state(Check c, String name, Call call) {
        thrown(c, STATE, ExceptionSentences::busy, name, call);
    }

    private static void fullThrows(Check c, String exception, String name, Call call) {
        thrown(c, exception, ExceptionSentences::full, name, call);
    }

    @Sentence(of = "EXCEPTIONS", says = "IndexOutOfBoundsException means that a constraint, a variable, a literal, an index of "
            + "the trail or a slot does not exist.")
    static void doesNotExist(Check c) {
        index(c, "isParity(5)", x -> x.isParity(5) ? 1 : 0);
        index(c, "variables(-1)", x -> x.variables(-1));
        index(c, "negated(5)", x -> x.negated(5));
        index(c, "removeConstraint(5)", x -> x.removeConstraint(5));
        index(c, "resolve(0, 5, 0)", x -> x.resolve(0, 5, 0));
        index(c, "resolve(0, 1, 8)", x -> x.resolve(0, 1, 8));
        index(c, "sum(5, 2)", x -> x.sum(5, 2));
        index(c, "decide(16)", x -> x.decide(16));
        index(c, "value(8)", x -> x.value(8));
        index(c, "trailLiteral(2)", x -> x.trailLiteral(2));
        index(c, "reason(-1)", x -> x.reason(-1));
        index(c, "save(2)", x -> x.save(2));
        index(c, "restore(-1)", x -> x.restore(-1));
    }

    @Sentence(of = "EXCEPTIONS", says = "IllegalArgumentException means that another argument is out of its range.")
    static void outOfRange(Check c) {
        argument(c, "append(256)", x -> x.append(256));
        argument(c, "append(-1)", x -> x.append(-1));
        argument(c, "addClause(256, 0)", x -> x.addClause(256, 0));
        argument(c, "addClause(0, -1)", x -> x.addClause(0, -1));
        argument(c, "addClause(2, 2)", x -> x.addClause(2, 2));
        argument(c, "addParity(256, 0)", x -> x.addParity(256, 0));
        argument(c, "addParity(1, 2)", x -> x.addParity(1, 2));
        argument(c, "backtrack(-1)", x -> x.backtrack(-1));
        argument(c, "backtrack(2)", x -> x.backtrack(2));
        argument(c, "impliesClause(256, 0)", x -> x.impliesClause(256, 0) ? 1 : 0);
        argument(c, "impliesClause(2, 2)", x -> x.impliesClause(2, 2) ? 1 : 0);
        argument(c, "impliesParity(-1, 0)", x -> x.impliesParity(-1, 0) ? 1 : 0);
        argument(c, "impliesParity(1, 2)", x -> x.impliesParity(1, 2) ? 1 : 0);
    }

    @Sentence(of = "EXCEPTIONS", says = "IllegalStateException means that the call is not possible now, as the method says.")
    static void notPossibleNow(Check c) {
        state(c, "load() of an incomplete text", x -> x.load());
        state(c, "resolve(2, 1, 0) of a parity", x -> x.resolve(2, 1, 0));
        state(c, "resolve(1, 0, 0) the wrong way round", x -> x.resolve(1, 0, 0));
        state(c, "sum(2, 0) of a clause", x -> x.sum(2, 0));
        state(c, "decide(12) of an assigned variable", x -> x.decide(12));
        state(c, "learn() without a conflict", x -> x.learn());
        state(c, "learnedClause() without a conflict", x -> x.learnedClause());
        state(c, "restore(0) of an empty slot", x -> x.restore(0));
        fullThrows(c, STATE, "append(97)", x -> x.append(97));
        fullThrows(c, STATE, "addClause(1, 0)", x -> x.addClause(1, 0));
        fullThrows(c, STATE, "addParity(1, 0)", x -> x.addParity(1, 0));
        fullThrows(c, STATE, "resolve(0, 1, 1)", x -> x.resolve(0, 1, 1));
        fullThrows(c, STATE, "sum(2, 3)", x -> x.sum(2, 3));
        fullThrows(c, STATE, "decide(4) with a conflict", x -> x.decide(4));
        fullThrows(c, STATE, "learn() with 24 constraints", x -> x.learn());
        thrown(c, STATE, CnfXorSolver::new, "undo() of a new object", x -> x.undo());
        thrown(c, STATE, () -> Calls.loaded("=1a;=0a;"), "eliminatedRow(0)", x -> x.eliminatedRow(0));
    }

    @Sentence(of = "EXCEPTIONS", says = "If several exceptions apply to a call, the one that its description names first is "
            + "thrown.")
    static void firstNamed(Check c) {
        fullThrows(c, ARGUMENT, "append(256) to a full text", x -> x.append(256));
        fullThrows(c, ARGUMENT, "addClause(256, 0) to 24", x -> x.addClause(256, 0));
        fullThrows(c, ARGUMENT, "addClause(1, 1) to 24", x -> x.addClause(1, 1));
        fullThrows(c, ARGUMENT, "addParity(-1, 0) to 24", x -> x.addParity(-1, 0));
        fullThrows(c, ARGUMENT, "addParity(1, 2) to 24", x -> x.addParity(1, 2));
        fullThrows(c, INDEX, "resolve(24, 1, 1) to 24", x -> x.resolve(24, 1, 1));
        fullThrows(c, INDEX, "resolve(2, 24, 1), a parity first", x -> x.resolve(2, 24, 1));
        fullThrows(c, INDEX, "resolve(2, 3, 8), two parities", x -> x.resolve(2, 3, 8));
        fullThrows(c, INDEX, "sum(24, 0), and a clause", x -> x.sum(24, 0));
        fullThrows(c, INDEX, "sum(0, -1), and a clause", x -> x.sum(0, -1));
        fullThrows(c, INDEX, "sum(2, 24) to 24", x -> x.sum(2, 24));
        fullThrows(c, INDEX, "decide(16) with a conflict", x -> x.decide(16));
        fullThrows(c, INDEX, "restore(2)", x -> x.restore(2));
    }

    @Sentence(of = "EXCEPTIONS", says = "A call that throws an exception changes nothing.")
    static void changesNothing(Check c) {
        CnfXorSolver x = full();
        String before = Calls.seen(x);
        Call[] refused = {y -> y.append(97), y -> y.append(-1), y -> y.load(), y -> y.isParity(24) ? 1 : 0,
            y -> y.variables(24), y -> y.negated(24), y -> y.addClause(1, 0), y -> y.addClause(-1, 0),
            y -> y.addParity(1, 0), y -> y.addParity(1, 2), y -> y.removeConstraint(24), y -> y.resolve(0, 1, 1),
            y -> y.resolve(0, 1, 8), y -> y.sum(2, 3), y -> y.sum(2, 24), y -> y.decide(4), y -> y.decide(16),
            y -> y.backtrack(2), y -> y.learn(), y -> y.value(8), y -> y.trailLiteral(8), y -> y.reason(8),
            y -> y.impliesClause(1, 1) ? 1 : 0, y -> y.impliesParity(1, 2) ? 1 : 0, y -> y.save(2), y -> y.restore(0),
            y -> y.restore(2)};
        for (int i = 0; i < refused.length; i++) {
            Call call = refused[i];
            c.due("refused call " + i + " throws", Check.outcome(() -> call.on(x)).endsWith("Exception"), true);
        }
        c.due("what is seen after them", Calls.seen(x), before);
        for (int left = 3; left >= 0; left--) {
            c.due("undo() after them", x.undo(), left);
        }
        c.due("clearText() after them", x.clearText(), 90);
    }
}
