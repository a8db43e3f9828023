/**
 * A solver for formulas of clauses and parity constraints over eight variables.
 *
 * A constraint is held as one int, in the packing that the document itself uses for its
 * answers: a clause as 256 * N + P, a parity as PARITY + 256 * bit + M.
 * All rows are made once, in the constructors: no call makes an object, but for an exception.
 */
public final class CnfXorSolver {
    public static final int NONE = -9;
    public static final int FALSE = 0, TRUE = 1, UNASSIGNED = 2;

    private static final int VARIABLES = 8;
    private static final int ALL_VARIABLES = 255;
    private static final int ASSIGNMENTS = 256;
    private static final int LITERALS = 16;
    private static final int PARITY = 65536;
    private static final int MAX_CONSTRAINTS = 24;
    private static final int MAX_TEXT = 90;
    private static final int MAX_CHARACTER = 255;
    private static final int MAX_REMEMBERED = 14;
    private static final int SLOTS = 2;

    private final FormulaText text = new FormulaText();
    private final State state = new State();
    private final Trail trail = new Trail();
    private final Memory memory = new Memory();
    private final ModelTable models = new ModelTable();
    private final Elimination elimination = new Elimination();
    private final State copy = new State();
    private final Trail copyTrail = new Trail();

    public CnfXorSolver() {
    }

    // ---- text

    public int append(int c) throws IllegalArgumentException, IllegalStateException {
        if (c < 0 || c > MAX_CHARACTER) {
            throw new IllegalArgumentException("a character code is 0 to 255");
        }
        if (text.length >= MAX_TEXT) {
            throw new IllegalStateException("the text is full");
        }
        text.put(c);
        return text.length;
    }

    public int clearText() {
        int previous = text.length;
        text.length = 0;
        return previous;
    }

    public int errorPosition() {
        return text.read();
    }

    public int load() throws IllegalStateException {
        if (text.read() != NONE) {
            throw new IllegalStateException("the text is not a complete formula text");
        }
        state.formula.copyFrom(text.formula);
        state.keepDecisions(0);
        memory.forgetAll();
        memory.emptySlots();
        rebuild();
        return state.formula.count;
    }

    // ---- the formula

    public int constraintCount() {
        return state.formula.count;
    }

    public boolean isParity(int i) throws IndexOutOfBoundsException {
        requireConstraint(i);
        return isParityCode(state.formula.codeAt(i));
    }

    public int variables(int i) throws IndexOutOfBoundsException {
        requireConstraint(i);
        return firstPart(state.formula.codeAt(i));
    }

    public int negated(int i) throws IndexOutOfBoundsException {
        requireConstraint(i);
        return secondPart(state.formula.codeAt(i));
    }

    // ---- actions

    public int addClause(int p, int n) throws IllegalArgumentException, IllegalStateException {
        requireClause(p, n);
        requireRoom();
        return addConstraint(clauseCode(p, n));
    }

    public int addParity(int m, int bit) throws IllegalArgumentException, IllegalStateException {
        requireParity(m, bit);
        requireRoom();
        return addConstraint(parityCode(m, bit));
    }

    public int removeConstraint(int i) throws IndexOutOfBoundsException {
        requireConstraint(i);
        memory.remember(state);
        state.formula.removeAt(i);
        rebuild();
        return state.formula.count;
    }

    public int resolve(int i, int j, int v) throws IndexOutOfBoundsException, IllegalStateException {
        requireConstraint(i);
        requireConstraint(j);
        requireVariable(v);
        int left = state.formula.codeAt(i);
        int right = state.formula.codeAt(j);
        if (isParityCode(left) || isParityCode(right)) {
            throw new IllegalStateException("only clauses are resolved");
        }
        int bit = 1 << v;
        if ((firstPart(left) & bit) == 0 || (secondPart(right) & bit) == 0) {
            throw new IllegalStateException("the variable is not in the sets as required");
        }
        int p = (firstPart(left) | firstPart(right)) & ~bit;
        int n = (secondPart(left) | secondPart(right)) & ~bit;
        if ((p & n) != 0) {
            throw new IllegalStateException("the sets of the resolvent have a variable in common");
        }
        requireRoom();
        return addConstraint(clauseCode(p, n));
    }

    public int sum(int i, int j) throws IndexOutOfBoundsException, IllegalStateException {
        requireConstraint(i);
        requireConstraint(j);
        int left = state.formula.codeAt(i);
        int right = state.formula.codeAt(j);
        if (!isParityCode(left) || !isParityCode(right)) {
            throw new IllegalStateException("only parities are added");
        }
        requireRoom();
        int m = firstPart(left) ^ firstPart(right);
        int bit = secondPart(left) ^ secondPart(right);
        return addConstraint(parityCode(m, bit));
    }

    public int decide(int literal) throws IndexOutOfBoundsException, IllegalStateException {
        if (literal < 0 || literal >= LITERALS) {
            throw new IndexOutOfBoundsException("a literal is 0 to 15");
        }
        if (trail.conflictNumber != NONE) {
            throw new IllegalStateException("there is a conflict");
        }
        if (trail.isAssigned(variableOf(literal))) {
            throw new IllegalStateException("the variable is assigned");
        }
        memory.remember(state);
        state.addDecision(literal);
        rebuild();
        return trail.length;
    }

    public int backtrack(int level) throws IllegalArgumentException {
        if (level < 0 || level > state.decisionCount) {
            throw new IllegalArgumentException("a level is 0 to the present level");
        }
        memory.remember(state);
        state.keepDecisions(level);
        rebuild();
        return trail.length;
    }

    public int learn() throws IllegalStateException {
        requireAnalysis();
        requireRoom();
        memory.remember(state);
        int backjumpLevel = learnInto(state, trail);
        rebuild();
        return backjumpLevel;
    }

    public int undo() throws IllegalStateException {
        if (memory.rememberedCount == 0) {
            throw new IllegalStateException("no state is remembered");
        }
        memory.takeBack(state);
        rebuild();
        return memory.rememberedCount;
    }

    // ---- the trail

    public int level() {
        return state.decisionCount;
    }

    public int value(int v) throws IndexOutOfBoundsException {
        requireVariable(v);
        if (!trail.isAssigned(v)) {
            return UNASSIGNED;
        }
        return trail.isTrue(v) ? TRUE : FALSE;
    }

    public int trailLiteral(int i) throws IndexOutOfBoundsException {
        if (i < 0 || i >= trail.length) {
            throw new IndexOutOfBoundsException("the trail has no such index");
        }
        return trail.literalAt(i);
    }

    public int reason(int v) throws IndexOutOfBoundsException {
        requireVariable(v);
        return trail.reasonOf(v);
    }

    public int conflict() {
        return trail.conflictNumber;
    }

    public int learnedClause() throws IllegalStateException {
        requireAnalysis();
        return trail.falseClause(trail.learnedVariables(state.formula));
    }

    // ---- models; the decisions do not matter

    public int modelCount() {
        models.refresh(state.formula);
        return models.countModels();
    }

    public int model(int i) {
        models.refresh(state.formula);
        return models.modelAt(i);
    }

    public boolean impliesClause(int p, int n) throws IllegalArgumentException {
        requireClause(p, n);
        models.refresh(state.formula);
        return models.allSatisfy(clauseCode(p, n));
    }

    public boolean impliesParity(int m, int bit) throws IllegalArgumentException {
        requireParity(m, bit);
        models.refresh(state.formula);
        return models.allSatisfy(parityCode(m, bit));
    }

    public int core() {
        models.refresh(state.formula);
        int left = (1 << state.formula.count) - 1;
        if (models.canSatisfy(left)) {
            return NONE;
        }
        for (int i = 0; i < state.formula.count; i++) {
            int without = left & ~(1 << i);
            if (!models.canSatisfy(without)) {
                left = without;
            }
        }
        return left;
    }

    // ---- elimination

    public int rank() {
        elimination.run(state.formula);
        return elimination.rowCount;
    }

    public boolean isConsistent() {
        elimination.run(state.formula);
        return elimination.consistent;
    }

    public int eliminatedRow(int i) throws IllegalStateException {
        elimination.run(state.formula);
        if (!elimination.consistent) {
            throw new IllegalStateException("the parities have no common solution");
        }
        return elimination.rowAt(i);
    }

    // ---- solving

    public int solve() {
        copy.formula.copyFrom(state.formula);
        copy.keepDecisions(0);
        copyTrail.build(copy);
        for (int learned = 0; learned <= MAX_CONSTRAINTS; learned++) {
            decideOpenVariables();
            if (copyTrail.conflictNumber == NONE) {
                return learned;
            }
            if (copy.decisionCount == 0) {
                return -1 - learned;
            }
            if (copy.formula.isFull()) {
                return NONE * 10;
            }
            learnInto(copy, copyTrail);
            copyTrail.build(copy);
        }
        return NONE * 10;
    }

    // ---- save slots

    public int save(int slot) throws IndexOutOfBoundsException {
        requireSlot(slot);
        memory.fillSlot(slot, state);
        return state.formula.count;
    }

    public int restore(int slot) throws IndexOutOfBoundsException, IllegalStateException {
        requireSlot(slot);
        if (!memory.isFilled(slot)) {
            throw new IllegalStateException("the slot is empty");
        }
        memory.copySlot(slot, state);
        memory.forgetAll();
        rebuild();
        return state.formula.count;
    }

    // ---- steps that several calls share

    /** Whatever depends on the formula or the decisions follows them here, and nowhere else. */
    private void rebuild() {
        models.stale = true;
        trail.build(state);
    }

    private int addConstraint(int code) {
        memory.remember(state);
        state.formula.add(code);
        rebuild();
        return state.formula.count - 1;
    }

    /** Leaves the trail as it was: whoever calls this builds it anew. */
    private static int learnInto(State target, Trail analysed) {
        int learned = analysed.learnedVariables(target.formula);
        int backjumpLevel = analysed.backjumpLevel(learned);
        target.formula.add(analysed.falseClause(learned));
        target.keepDecisions(backjumpLevel);
        return backjumpLevel;
    }

    /** One ascending pass is enough: without a conflict no assigned variable is freed again. */
    private void decideOpenVariables() {
        for (int v = 0; v < VARIABLES && copyTrail.conflictNumber == NONE; v++) {
            if (!copyTrail.isAssigned(v)) {
                copy.addDecision(literalOf(v, true));
                copyTrail.build(copy);
            }
        }
    }

    // ---- what the calls require

    private void requireConstraint(int i) {
        if (!state.formula.has(i)) {
            throw new IndexOutOfBoundsException("there is no such constraint");
        }
    }

    private void requireRoom() {
        if (state.formula.isFull()) {
            throw new IllegalStateException("there are 24 constraints");
        }
    }

    private void requireAnalysis() {
        if (trail.conflictNumber == NONE || state.decisionCount == 0) {
            throw new IllegalStateException("conflict analysis is not possible");
        }
    }

    private static void requireVariable(int v) {
        if (!isVariable(v)) {
            throw new IndexOutOfBoundsException("a variable is 0 to 7");
        }
    }

    private static void requireSlot(int slot) {
        if (slot < 0 || slot >= SLOTS) {
            throw new IndexOutOfBoundsException("a slot is 0 or 1");
        }
    }

    private static void requireClause(int p, int n) {
        if (!isSet(p) || !isSet(n)) {
            throw new IllegalArgumentException("a set is 0 to 255");
        }
        if ((p & n) != 0) {
            throw new IllegalArgumentException("the sets have a variable in common");
        }
    }

    private static void requireParity(int m, int bit) {
        if (!isSet(m)) {
            throw new IllegalArgumentException("a set is 0 to 255");
        }
        if (bit < 0 || bit > 1) {
            throw new IllegalArgumentException("a bit is 0 or 1");
        }
    }

    // ---- sets, literals and constraints as numbers

    private static boolean isSet(int set) {
        return set >= 0 && set <= ALL_VARIABLES;
    }

    private static boolean isVariable(int v) {
        return v >= 0 && v < VARIABLES;
    }

    private static boolean contains(int set, int v) {
        return (set >> v & 1) == 1;
    }

    private static int smallestVariable(int set) {
        for (int v = 0; v < VARIABLES; v++) {
            if (contains(set, v)) {
                return v;
            }
        }
        return NONE;
    }

    private static int literalOf(int v, boolean isTrue) {
        return 2 * v + (isTrue ? 0 : 1);
    }

    private static int variableOf(int literal) {
        return literal >> 1;
    }

    private static int clauseCode(int p, int n) {
        return n << VARIABLES | p;
    }

    private static int parityCode(int m, int bit) {
        return PARITY | bit << VARIABLES | m;
    }

    private static boolean isParityCode(int code) {
        return (code & PARITY) != 0;
    }

    /** The set P of a clause, the set M of a parity. */
    private static int firstPart(int code) {
        return code & ALL_VARIABLES;
    }

    /** The set N of a clause, the bit of a parity. */
    private static int secondPart(int code) {
        return code >> VARIABLES & ALL_VARIABLES;
    }

    private static int variablesOf(int code) {
        int sets = (code & PARITY) != 0 ? code : code | code >> VARIABLES;
        return sets & ALL_VARIABLES;
    }

    /** Variables that are not in the set of true ones count as false. */
    private static boolean isViolated(int code, int trueSet) {
        int first = code & ALL_VARIABLES;
        int second = code >> VARIABLES & ALL_VARIABLES;
        if ((code & PARITY) != 0) {
            return (Integer.bitCount(first & trueSet) & 1) != second;
        }
        return (first & trueSet) == 0 && (second & ~trueSet) == 0;
    }

    /** A list of constraints. */
    private static final class Formula {
        private final int[] codes = new int[MAX_CONSTRAINTS];
        private int count = 0;

        boolean has(int i) {
            return i >= 0 && i < count;
        }

        boolean isFull() {
            return count >= MAX_CONSTRAINTS;
        }

        int codeAt(int i) {
            return has(i) ? codes[i] : 0;
        }

        void add(int code) {
            if (!isFull()) {
                codes[count] = code;
                count++;
            }
        }

        void removeAt(int i) {
            if (has(i)) {
                for (int k = i; k < count - 1; k++) {
                    codes[k] = codes[k + 1];
                }
                count--;
            }
        }

        void copyFrom(Formula other) {
            for (int i = 0; i < other.count; i++) {
                codes[i] = other.codes[i];
            }
            count = other.count;
        }

        /**
         * With at most one variable open, a constraint is violated or unit exactly if some value
         * of that variable violates it; so the others satisfy no unit clause.
         */
        int firstViolatedOrUnit(int assigned, int trueSet) {
            for (int i = 0; i < count; i++) {
                int open = variablesOf(codes[i]) & ~assigned;
                if (Integer.bitCount(open) <= 1
                        && (isViolated(codes[i], trueSet) || isViolated(codes[i], trueSet | open))) {
                    return i;
                }
            }
            return NONE;
        }
    }

    /** What actions change, and what is remembered, saved and restored. */
    private static final class State {
        private final Formula formula = new Formula();
        private final int[] decisions = new int[VARIABLES];
        private int decisionCount = 0;

        int decisionAt(int i) {
            return i >= 0 && i < decisionCount ? decisions[i] : 0;
        }

        void addDecision(int literal) {
            if (decisionCount < VARIABLES) {
                decisions[decisionCount] = literal;
                decisionCount++;
            }
        }

        void keepDecisions(int kept) {
            decisionCount = Math.max(0, Math.min(kept, decisionCount));
        }

        void copyFrom(State other) {
            formula.copyFrom(other.formula);
            for (int i = 0; i < other.decisionCount; i++) {
                decisions[i] = other.decisions[i];
            }
            decisionCount = other.decisionCount;
        }
    }

    /** The assignments that follow from a state, and the analysis of their conflict. */
    private static final class Trail {
        private final int[] order = new int[VARIABLES];
        private final int[] levels = new int[VARIABLES];
        private final int[] reasons = new int[VARIABLES];
        private int length = 0;
        private int assigned = 0;
        private int trueSet = 0;
        private int topLevel = 0;
        private int assignedBelow = 0;
        private int conflictNumber = NONE;

        void build(State state) {
            length = 0;
            assigned = 0;
            trueSet = 0;
            topLevel = 0;
            assignedBelow = 0;
            conflictNumber = NONE;
            propagate(state.formula);
            int listed = state.decisionCount;
            for (int i = 0; i < listed && allows(state.decisionAt(i)); i++) {
                startLevel(state.decisionAt(i));
                propagate(state.formula);
            }
            state.keepDecisions(topLevel);
        }

        private boolean allows(int decision) {
            return conflictNumber == NONE && !isAssigned(variableOf(decision));
        }

        private void startLevel(int decision) {
            assignedBelow = assigned;
            topLevel++;
            int v = variableOf(decision);
            assign(v, decision == literalOf(v, true), NONE);
        }

        /** Each round but the last assigns a variable. */
        private void propagate(Formula formula) {
            for (int round = 0; round <= VARIABLES && conflictNumber == NONE; round++) {
                int i = formula.firstViolatedOrUnit(assigned, trueSet);
                if (i == NONE) {
                    return;
                }
                int code = formula.codeAt(i);
                int open = variablesOf(code) & ~assigned;
                if (open == 0) {
                    conflictNumber = i;
                } else {
                    // the open variable counts as false here: if that violates, it must be true
                    assign(smallestVariable(open), isViolated(code, trueSet), i);
                }
            }
        }

        private void assign(int v, boolean isTrue, int reason) {
            if (!isVariable(v) || length >= VARIABLES) {
                return;
            }
            order[length] = v;
            length++;
            levels[v] = topLevel;
            reasons[v] = reason;
            assigned |= 1 << v;
            if (isTrue) {
                trueSet |= 1 << v;
            }
        }

        boolean isAssigned(int v) {
            return contains(assigned, v);
        }

        boolean isTrue(int v) {
            return contains(trueSet, v);
        }

        int literalAt(int i) {
            if (i < 0 || i >= length) {
                return NONE;
            }
            return literalOf(order[i], isTrue(order[i]));
        }

        int reasonOf(int v) {
            return isVariable(v) && isAssigned(v) ? reasons[v] : NONE;
        }

        /**
         * The other variables of a reason stand before its variable on the trail: so one pass from
         * the end meets the latest variable of the clause each time.
         */
        int learnedVariables(Formula formula) {
            int present = assigned & ~assignedBelow;
            int set = variablesOf(formula.codeAt(conflictNumber));
            for (int i = length - 1; i >= 0 && Integer.bitCount(set & present) > 1; i--) {
                int v = order[i];
                if (contains(set, v)) {
                    int reasonSet = variablesOf(formula.codeAt(reasonOf(v)));
                    set = (set | reasonSet) & ~(1 << v);
                }
            }
            return set;
        }

        int backjumpLevel(int learned) {
            int greatest = 0;
            for (int v = 0; v < VARIABLES; v++) {
                if (contains(learned & assignedBelow, v)) {
                    greatest = Math.max(greatest, levels[v]);
                }
            }
            return greatest;
        }

        /** The clause of these variables whose literals are all false now. */
        int falseClause(int set) {
            return clauseCode(set & ~trueSet, set & trueSet);
        }
    }

    /** The remembered states, the oldest first, and the save slots. */
    private static final class Memory {
        private final State[] remembered = new State[MAX_REMEMBERED];
        private final State[] slots = new State[SLOTS];
        private final boolean[] filled = new boolean[SLOTS];
        private int rememberedCount = 0;

        Memory() {
            for (int i = 0; i < MAX_REMEMBERED; i++) {
                remembered[i] = new State();
            }
            for (int i = 0; i < SLOTS; i++) {
                slots[i] = new State();
            }
        }

        void remember(State state) {
            if (rememberedCount >= MAX_REMEMBERED) {
                forgetOldest();
            }
            copyInto(remembered[rememberedCount], state);
            rememberedCount++;
        }

        /** The place of the oldest state is used again, behind all others. */
        private void forgetOldest() {
            State oldest = remembered[0];
            for (int i = 0; i < MAX_REMEMBERED - 1; i++) {
                remembered[i] = remembered[i + 1];
            }
            remembered[MAX_REMEMBERED - 1] = oldest;
            rememberedCount = MAX_REMEMBERED - 1;
        }

        void takeBack(State state) {
            if (rememberedCount > 0) {
                rememberedCount--;
                copyInto(state, remembered[rememberedCount]);
            }
        }

        void forgetAll() {
            rememberedCount = 0;
        }

        boolean isFilled(int slot) {
            return slot >= 0 && slot < SLOTS && filled[slot];
        }

        void fillSlot(int slot, State state) {
            if (slot >= 0 && slot < SLOTS) {
                copyInto(slots[slot], state);
                filled[slot] = true;
            }
        }

        void copySlot(int slot, State state) {
            if (isFilled(slot)) {
                copyInto(state, slots[slot]);
            }
        }

        void emptySlots() {
            for (int i = 0; i < SLOTS; i++) {
                filled[i] = false;
            }
        }

        private static void copyInto(State target, State source) {
            if (target != null && source != null) {
                target.copyFrom(source);
            }
        }
    }

    /** For each of the 256 assignments the constraints that it violates, as a bit set. */
    private static final class ModelTable {
        private final int[] violated = new int[ASSIGNMENTS];
        private boolean stale = true;

        void refresh(Formula formula) {
            if (stale) {
                for (int a = 0; a < ASSIGNMENTS; a++) {
                    violated[a] = violatedBy(formula, a);
                }
                stale = false;
            }
        }

        private static int violatedBy(Formula formula, int assignment) {
            int set = 0;
            for (int i = 0; i < formula.count; i++) {
                if (isViolated(formula.codeAt(i), assignment)) {
                    set |= 1 << i;
                }
            }
            return set;
        }

        int countModels() {
            int found = 0;
            for (int a = 0; a < ASSIGNMENTS; a++) {
                if (violated[a] == 0) {
                    found++;
                }
            }
            return found;
        }

        int modelAt(int index) {
            int found = 0;
            for (int a = 0; a < ASSIGNMENTS; a++) {
                if (violated[a] == 0) {
                    if (found == index) {
                        return a;
                    }
                    found++;
                }
            }
            return NONE;
        }

        boolean allSatisfy(int code) {
            for (int a = 0; a < ASSIGNMENTS; a++) {
                if (violated[a] == 0 && isViolated(code, a)) {
                    return false;
                }
            }
            return true;
        }

        boolean canSatisfy(int constraints) {
            for (int a = 0; a < ASSIGNMENTS; a++) {
                if ((violated[a] & constraints) == 0) {
                    return true;
                }
            }
            return false;
        }
    }

    /** The reduced row echelon form of the parities; a row is held as 256 * bit + M. */
    private static final class Elimination {
        private final int[] rowOfPivot = new int[VARIABLES];
        private int rowCount = 0;
        private boolean consistent = true;

        void run(Formula formula) {
            for (int v = 0; v < VARIABLES; v++) {
                rowOfPivot[v] = 0;
            }
            rowCount = 0;
            consistent = true;
            for (int i = 0; i < formula.count; i++) {
                int code = formula.codeAt(i);
                if (isParityCode(code)) {
                    insert(reduced(code & ~PARITY));
                }
            }
        }

        /** The rows have no pivots of one another: so adding one brings no pivot back. */
        private int reduced(int row) {
            int rest = row;
            for (int v = 0; v < VARIABLES; v++) {
                if (contains(rest, v)) {
                    rest ^= rowOfPivot[v];
                }
            }
            return rest;
        }

        private void insert(int row) {
            int pivot = smallestVariable(firstPart(row));
            if (!isVariable(pivot)) {
                consistent = consistent && row == 0;
                return;
            }
            for (int v = 0; v < VARIABLES; v++) {
                if (contains(rowOfPivot[v], pivot)) {
                    rowOfPivot[v] ^= row;
                }
            }
            rowOfPivot[pivot] = row;
            rowCount++;
        }

        int rowAt(int index) {
            int found = 0;
            for (int v = 0; v < VARIABLES; v++) {
                if (rowOfPivot[v] != 0) {
                    if (found == index) {
                        return rowOfPivot[v];
                    }
                    found++;
                }
            }
            return NONE;
        }
    }

    /** The text buffer and the reader of formula texts. */
    private static final class FormulaText {
        private static final int AT_START = 0, IN_CLAUSE = 1, AT_BIT = 2, IN_PARITY = 3;

        private final int[] characters = new int[MAX_TEXT];
        private int length = 0;
        private final Formula formula = new Formula();
        private int place = AT_START;
        private int itemFirst = 0;
        private int itemSecond = 0;

        void put(int c) {
            if (length < MAX_TEXT) {
                characters[length] = c;
                length++;
            }
        }

        /** Answers the error position, or NONE; then the formula is the one in the text. */
        int read() {
            formula.count = 0;
            startItem();
            for (int i = 0; i < length; i++) {
                if (!takes(characters[i])) {
                    return i;
                }
            }
            return place == AT_START ? NONE : length;
        }

        private void startItem() {
            place = AT_START;
            itemFirst = 0;
            itemSecond = 0;
        }

        private boolean takes(int c) {
            switch (place) {
                case AT_START:
                    return takesFirst(c);
                case IN_CLAUSE:
                    return c == ';' ? endsItem(clauseCode(itemFirst, itemSecond)) : takesClauseLetter(c);
                case AT_BIT:
                    return takesBit(c);
                default:
                    return takesInParity(c);
            }
        }

        private boolean takesFirst(int c) {
            if (formula.isFull()) {
                return false;
            }
            if (c == '=') {
                place = AT_BIT;
                return true;
            }
            place = IN_CLAUSE;
            return takesClauseLetter(c);
        }

        private boolean takesClauseLetter(int c) {
            int used = itemFirst | itemSecond;
            if (isNewLetter(c, 'a', used)) {
                itemFirst |= 1 << c - 'a';
                return true;
            }
            if (isNewLetter(c, 'A', used)) {
                itemSecond |= 1 << c - 'A';
                return true;
            }
            return false;
        }

        private boolean takesBit(int c) {
            if (c != '0' && c != '1') {
                return false;
            }
            itemSecond = c - '0';
            place = IN_PARITY;
            return true;
        }

        private boolean takesInParity(int c) {
            if (c == ';') {
                return itemFirst != 0 && endsItem(parityCode(itemFirst, itemSecond));
            }
            if (!isNewLetter(c, 'a', itemFirst)) {
                return false;
            }
            itemFirst |= 1 << c - 'a';
            return true;
        }

        private boolean endsItem(int code) {
            formula.add(code);
            startItem();
            return true;
        }

        private static boolean isNewLetter(int c, char letterOfZero, int used) {
            int v = c - letterOfZero;
            return isVariable(v) && !contains(used, v);
        }
    }
}
