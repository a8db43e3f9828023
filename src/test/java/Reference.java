import java.util.ArrayList;
import java.util.List;
import java.util.TreeSet;

/**
 * The document written down a second time, as naively as can be, for RandomRunsTest: with lists
 * and sets of single variables, so that it shares no trick with the class.
 */
final class Reference {
    private static final int NONE = -9;

    private record Constraint(boolean parity, int first, int second) {
        boolean has(int v) {
            return (first >> v & 1) == 1 || !parity && (second >> v & 1) == 1;
        }

        boolean holds(boolean[] values) {
            boolean odd = false;
            for (int v = 0; v < 8; v++) {
                if (!parity && (first >> v & 1) == 1 && values[v]) {
                    return true;
                }
                if (!parity && (second >> v & 1) == 1 && !values[v]) {
                    return true;
                }
                odd ^= parity && (first >> v & 1) == 1 && values[v];
            }
            return parity && odd == (second == 1);
        }
    }

    private record Step(int variable, boolean value, int level, int reason) {
    }

    private record Saved(List<Constraint> formula, List<Integer> decisions) {
    }

    private String text = "";
    private List<Constraint> formula = new ArrayList<>();
    private List<Integer> decisions = new ArrayList<>();
    private final List<Saved> remembered = new ArrayList<>();
    private final Saved[] slots = new Saved[2];
    private List<Step> trail = new ArrayList<>();
    private int conflictNumber = NONE;

    // ---- the trail

    private void build() {
        trail = new ArrayList<>();
        conflictNumber = NONE;
        propagate(0);
        List<Integer> kept = new ArrayList<>();
        for (int literal : decisions) {
            if (conflictNumber != NONE || stepOf(literal / 2) != null) {
                break;
            }
            kept.add(literal);
            trail.add(new Step(literal / 2, literal % 2 == 0, kept.size(), NONE));
            propagate(kept.size());
        }
        decisions = kept;
    }

    private Step stepOf(int v) {
        for (Step s : trail) {
            if (s.variable == v) {
                return s;
            }
        }
        return null;
    }

    private void propagate(int level) {
        boolean again = true;
        while (again) {
            again = false;
            for (int i = 0; i < formula.size() && !again; i++) {
                again = tryConstraint(i, level);
                if (conflictNumber != NONE) {
                    return;
                }
            }
        }
    }

    private boolean tryConstraint(int i, int level) {
        Constraint c = formula.get(i);
        int open = -1;
        int openCount = 0;
        boolean satisfiedByOthers = false;
        boolean[] values = new boolean[8];
        for (int v = 0; v < 8; v++) {
            Step s = stepOf(v);
            if (c.has(v) && s == null) {
                open = v;
                openCount++;
            } else if (c.has(v)) {
                values[v] = s.value;
                satisfiedByOthers |= !c.parity && s.value == ((c.first >> v & 1) == 1);
            }
        }
        if (openCount == 0) {
            if (!c.holds(values)) {
                conflictNumber = i;
            }
            return false;
        }
        if (openCount > 1 || satisfiedByOthers) {
            return false;
        }
        values[open] = true;
        trail.add(new Step(open, c.holds(values), level, i));
        return true;
    }

    private TreeSet<Integer> learnedSet() {
        if (conflictNumber == NONE || decisions.isEmpty()) {
            throw new IllegalStateException();
        }
        TreeSet<Integer> clause = new TreeSet<>();
        addVariables(clause, conflictNumber, -1);
        while (true) {
            int present = 0;
            int latest = -1;
            for (int k = 0; k < trail.size(); k++) {
                if (clause.contains(trail.get(k).variable)) {
                    latest = k;
                    present += trail.get(k).level == decisions.size() ? 1 : 0;
                }
            }
            if (present < 2) {
                return clause;
            }
            Step s = trail.get(latest);
            clause.remove(s.variable);
            addVariables(clause, s.reason, s.variable);
        }
    }

    private void addVariables(TreeSet<Integer> clause, int constraint, int except) {
        for (int v = 0; v < 8; v++) {
            if (v != except && formula.get(constraint).has(v)) {
                clause.add(v);
            }
        }
    }

    private Constraint clauseOf(TreeSet<Integer> set) {
        int p = 0;
        int n = 0;
        for (int v : set) {
            if (stepOf(v).value) {
                n += 1 << v;
            } else {
                p += 1 << v;
            }
        }
        return new Constraint(false, p, n);
    }

    private int backjumpLevel(TreeSet<Integer> set) {
        int greatest = 0;
        for (int v : set) {
            int level = stepOf(v).level;
            if (level < decisions.size() && level > greatest) {
                greatest = level;
            }
        }
        return greatest;
    }

    private int learnNow() {
        TreeSet<Integer> set = learnedSet();
        int back = backjumpLevel(set);
        formula.add(clauseOf(set));
        decisions = new ArrayList<>(decisions.subList(0, back));
        build();
        return back;
    }

    // ---- what is remembered

    private Saved present() {
        return new Saved(new ArrayList<>(formula), new ArrayList<>(decisions));
    }

    private void become(Saved s) {
        formula = new ArrayList<>(s.formula);
        decisions = new ArrayList<>(s.decisions);
        build();
    }

    private void remember() {
        remembered.add(present());
        if (remembered.size() > 14) {
            remembered.remove(0);
        }
    }

    private int add(Constraint c) {
        remember();
        formula.add(c);
        build();
        return formula.size() - 1;
    }

    private static void argument(boolean good) {
        if (!good) {
            throw new IllegalArgumentException();
        }
    }

    private static void index(boolean good) {
        if (!good) {
            throw new IndexOutOfBoundsException();
        }
    }

    private static void state(boolean good) {
        if (!good) {
            throw new IllegalStateException();
        }
    }

    private boolean exists(int i) {
        return i >= 0 && i < formula.size();
    }

    // ---- the face

    int append(int c) {
        argument(c >= 0 && c <= 255);
        state(text.length() < 90);
        text += (char) c;
        return text.length();
    }

    int clearText() {
        int length = text.length();
        text = "";
        return length;
    }

    /** By regular expressions: the longest beginning of the text that can go on to be complete. */
    int errorPosition() {
        if (isComplete(text)) {
            return NONE;
        }
        for (int i = 1; i <= text.length(); i++) {
            if (!canGoOn(text.substring(0, i))) {
                return i - 1;
            }
        }
        return text.length();
    }

    private static boolean isComplete(String s) {
        return (s.isEmpty() || s.endsWith(";")) && canGoOn(s);
    }

    private static boolean canGoOn(String s) {
        String[] parts = s.split(";", -1);
        for (int k = 0; k < parts.length; k++) {
            boolean ended = k < parts.length - 1;
            String shape = ended ? "[a-hA-H]+|=[01][a-h]+" : "[a-hA-H]*|=|=[01][a-h]*";
            String letters = parts[k].replaceFirst("^=[01]?", "").toLowerCase();
            if (!parts[k].matches("(?s)" + shape) || letters.chars().distinct().count() != letters.length()) {
                return false;
            }
        }
        return parts.length - 1 < 24 || parts.length - 1 == 24 && parts[24].isEmpty();
    }

    int load() {
        state(errorPosition() == NONE);
        formula = new ArrayList<>();
        for (String item : text.split(";")) {
            if (!item.isEmpty()) {
                formula.add(itemOf(item));
            }
        }
        decisions = new ArrayList<>();
        remembered.clear();
        slots[0] = null;
        slots[1] = null;
        build();
        return formula.size();
    }

    private static Constraint itemOf(String item) {
        boolean parity = item.charAt(0) == '=';
        int first = 0;
        int second = parity ? item.charAt(1) - '0' : 0;
        for (char c : item.substring(parity ? 2 : 0).toCharArray()) {
            if (Character.isLowerCase(c)) {
                first += 1 << c - 'a';
            } else {
                second += 1 << c - 'A';
            }
        }
        return new Constraint(parity, first, second);
    }

    int constraintCount() {
        return formula.size();
    }

    boolean isParity(int i) {
        index(exists(i));
        return formula.get(i).parity;
    }

    int variables(int i) {
        index(exists(i));
        return formula.get(i).first;
    }

    int negated(int i) {
        index(exists(i));
        return formula.get(i).second;
    }

    private static boolean isSet(int s) {
        return s >= 0 && s <= 255;
    }

    int addClause(int p, int n) {
        argument(isSet(p) && isSet(n) && (p & n) == 0);
        state(formula.size() < 24);
        return add(new Constraint(false, p, n));
    }

    int addParity(int m, int bit) {
        argument(isSet(m) && (bit == 0 || bit == 1));
        state(formula.size() < 24);
        return add(new Constraint(true, m, bit));
    }

    int removeConstraint(int i) {
        index(exists(i));
        remember();
        formula.remove(i);
        build();
        return formula.size();
    }

    int resolve(int i, int j, int v) {
        index(exists(i) && exists(j) && v >= 0 && v <= 7);
        Constraint a = formula.get(i);
        Constraint b = formula.get(j);
        state(!a.parity && !b.parity);
        state((a.first >> v & 1) == 1 && (b.second >> v & 1) == 1);
        int p = 0;
        int n = 0;
        for (int w = 0; w < 8; w++) {
            if (w != v) {
                p += ((a.first | b.first) >> w & 1) << w;
                n += ((a.second | b.second) >> w & 1) << w;
            }
        }
        state((p & n) == 0);
        state(formula.size() < 24);
        return add(new Constraint(false, p, n));
    }

    int sum(int i, int j) {
        index(exists(i) && exists(j));
        Constraint a = formula.get(i);
        Constraint b = formula.get(j);
        state(a.parity && b.parity && formula.size() < 24);
        int m = 0;
        for (int v = 0; v < 8; v++) {
            if (a.has(v) != b.has(v)) {
                m += 1 << v;
            }
        }
        return add(new Constraint(true, m, a.second == b.second ? 0 : 1));
    }

    int decide(int literal) {
        index(literal >= 0 && literal <= 15);
        state(conflictNumber == NONE && stepOf(literal / 2) == null);
        remember();
        decisions.add(literal);
        build();
        return trail.size();
    }

    int backtrack(int level) {
        argument(level >= 0 && level <= decisions.size());
        remember();
        decisions = new ArrayList<>(decisions.subList(0, level));
        build();
        return trail.size();
    }

    int learn() {
        learnedSet();
        state(formula.size() < 24);
        remember();
        return learnNow();
    }

    int undo() {
        state(!remembered.isEmpty());
        become(remembered.remove(remembered.size() - 1));
        return remembered.size();
    }

    int level() {
        return decisions.size();
    }

    int value(int v) {
        index(v >= 0 && v <= 7);
        Step s = stepOf(v);
        return s == null ? 2 : s.value ? 1 : 0;
    }

    int trailLiteral(int i) {
        index(i >= 0 && i < trail.size());
        return 2 * trail.get(i).variable + (trail.get(i).value ? 0 : 1);
    }

    int reason(int v) {
        index(v >= 0 && v <= 7);
        return stepOf(v) == null ? NONE : stepOf(v).reason;
    }

    int conflict() {
        return conflictNumber;
    }

    int learnedClause() {
        Constraint c = clauseOf(learnedSet());
        return 256 * c.second + c.first;
    }

    private static boolean[] assignment(int number) {
        boolean[] values = new boolean[8];
        for (int v = 0; v < 8; v++) {
            values[v] = (number >> v & 1) == 1;
        }
        return values;
    }

    private static List<Integer> modelsOf(List<Constraint> constraints) {
        List<Integer> found = new ArrayList<>();
        for (int a = 0; a < 256; a++) {
            boolean[] values = assignment(a);
            boolean all = true;
            for (int i = 0; i < constraints.size() && all; i++) {
                all = constraints.get(i).holds(values);
            }
            if (all) {
                found.add(a);
            }
        }
        return found;
    }

    int modelCount() {
        return modelsOf(formula).size();
    }

    int model(int i) {
        List<Integer> models = modelsOf(formula);
        return i < 0 || i >= models.size() ? NONE : models.get(i);
    }

    private boolean implies(Constraint c) {
        for (int a : modelsOf(formula)) {
            if (!c.holds(assignment(a))) {
                return false;
            }
        }
        return true;
    }

    boolean impliesClause(int p, int n) {
        argument(isSet(p) && isSet(n) && (p & n) == 0);
        return implies(new Constraint(false, p, n));
    }

    boolean impliesParity(int m, int bit) {
        argument(isSet(m) && (bit == 0 || bit == 1));
        return implies(new Constraint(true, m, bit));
    }

    int core() {
        if (!modelsOf(formula).isEmpty()) {
            return NONE;
        }
        TreeSet<Integer> left = new TreeSet<>();
        for (int i = 0; i < formula.size(); i++) {
            left.add(i);
        }
        for (int i = 0; i < formula.size(); i++) {
            List<Constraint> without = new ArrayList<>();
            for (int k : left) {
                if (k != i) {
                    without.add(formula.get(k));
                }
            }
            if (modelsOf(without).isEmpty()) {
                left.remove(i);
            }
        }
        int bits = 0;
        for (int i : left) {
            bits += 1 << i;
        }
        return bits;
    }

    /** Gauss and Jordan on a matrix; column 8 holds the bits. */
    private List<boolean[]> matrix() {
        List<boolean[]> rows = new ArrayList<>();
        for (Constraint c : formula) {
            if (c.parity) {
                boolean[] row = new boolean[9];
                for (int v = 0; v < 8; v++) {
                    row[v] = c.has(v);
                }
                row[8] = c.second == 1;
                rows.add(row);
            }
        }
        int done = 0;
        for (int v = 0; v < 8; v++) {
            int from = done;
            while (from < rows.size() && !rows.get(from)[v]) {
                from++;
            }
            if (from == rows.size()) {
                continue;
            }
            boolean[] pivot = rows.remove(from);
            rows.add(done, pivot);
            for (int r = 0; r < rows.size(); r++) {
                if (r != done && rows.get(r)[v]) {
                    for (int k = 0; k < 9; k++) {
                        rows.get(r)[k] ^= pivot[k];
                    }
                }
            }
            done++;
        }
        return rows;
    }

    private static int number(boolean[] row) {
        int m = 0;
        for (int v = 0; v < 8; v++) {
            m += row[v] ? 1 << v : 0;
        }
        return m;
    }

    int rank() {
        int rows = 0;
        for (boolean[] row : matrix()) {
            rows += number(row) != 0 ? 1 : 0;
        }
        return rows;
    }

    boolean isConsistent() {
        List<Constraint> parities = new ArrayList<>();
        for (Constraint c : formula) {
            if (c.parity) {
                parities.add(c);
            }
        }
        return !modelsOf(parities).isEmpty();
    }

    int eliminatedRow(int i) {
        state(isConsistent());
        if (i < 0 || i >= rank()) {
            return NONE;
        }
        boolean[] row = matrix().get(i);
        return number(row) + (row[8] ? 256 : 0);
    }

    int solve() {
        Reference copy = new Reference();
        copy.formula = new ArrayList<>(formula);
        copy.build();
        int learned = 0;
        while (true) {
            if (copy.conflictNumber == NONE) {
                int v = 0;
                while (v < 8 && copy.stepOf(v) != null) {
                    v++;
                }
                if (v == 8) {
                    return learned;
                }
                copy.decisions.add(2 * v);
                copy.build();
            } else if (copy.decisions.isEmpty()) {
                return -1 - learned;
            } else if (copy.formula.size() == 24) {
                return -90;
            } else {
                copy.learnNow();
                learned++;
            }
        }
    }

    int save(int slot) {
        index(slot == 0 || slot == 1);
        slots[slot] = present();
        return formula.size();
    }

    int restore(int slot) {
        index(slot == 0 || slot == 1);
        state(slots[slot] != null);
        remembered.clear();
        become(slots[slot]);
        return formula.size();
    }
}
