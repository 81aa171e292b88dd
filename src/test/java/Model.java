import java.util.ArrayList;
import java.util.Arrays;
import java.util.HashMap;
import java.util.List;
import java.util.Map;

/**
 * The document written down a second time, from its first line, as plainly as its words go: worths by all ways, in
 * fractions without a bound, and nothing of the class used. `ModelTest` holds the class against it.
 */
final class Model {
    private static final int BAD = -1, FULL = -2, FINDING = -3, STATE = -4, NONE = -9;
    private static final int NOTHING = 1, BEYOND = 2, UNLIKE = 3, NOUGHT = 4, SIZE = 5, THROWN = 6;

    /** A row of places; none, if it is missing. */
    private static final class Sheet {
        private int kind;
        private long[] places;
    }

    private static final class Machine {
        private int kind;
        private int[] pays;
        private int[][] weights;
        private int stands = 0;
        private int worked = 0;
    }

    // The same machine at the same share is met again and again: its worths by all ways are reckoned once.
    private static final Map<String, Part[]> KNOWN = new HashMap<>();

    private final List<Machine> machines = new ArrayList<>();
    private final List<Sheet> sheets = new ArrayList<>();
    private final List<Integer> steps = new ArrayList<>();
    private final int[] findings = new int[7];
    private int p = 1;
    private int q = 2;
    private long seed = 1;
    private Part told = Part.ZERO;
    private long asked = 0;
    private long paid = 0;
    private int finding = 0;

    // ---- 1 the share, sheets

    int share(int p, int q) {
        if (!(1 <= p && p < q && q <= 8)) {
            return BAD;
        }
        this.p = p;
        this.q = q;
        return 1;
    }

    int sheet(int kind, int n) {
        if (!within(kind, 0, 3) || n > 24) {
            return BAD;
        }
        if (sheets.size() == 12) {
            return FULL;
        }
        if (n < 0) {
            return find(SIZE);
        }
        Sheet one = new Sheet();
        one.kind = kind;
        one.places = new long[n];
        sheets.add(one);
        return sheets.size() - 1;
    }

    int tear(int sheet) {
        if (!isSheet(sheet)) {
            return BAD;
        }
        if (sheets.get(sheet).places == null) {
            return find(NOTHING);
        }
        sheets.get(sheet).places = null;
        return 1;
    }

    int lay(int sheet, int i, long v) {
        int refused = place(sheet, i);
        if (refused != 0) {
            return refused;
        }
        int kind = sheets.get(sheet).kind;
        sheets.get(sheet).places[i] = kind == 0 ? (byte) v : kind == 1 ? (short) v : kind == 2 ? (int) v : v;
        return 1;
    }

    int get(int sheet, int i) {
        int refused = place(sheet, i);
        if (refused != 0) {
            return refused;
        }
        asked = sheets.get(sheet).places[i];
        return 1;
    }

    int copy(int sheet, int i, int other, int j, int n) {
        if (!isSheet(sheet) || !isSheet(other)) {
            return BAD;
        }
        Sheet from = sheets.get(sheet);
        Sheet to = sheets.get(other);
        if (from.places == null || to.places == null) {
            return find(NOTHING);
        }
        if (from.kind != to.kind) {
            return find(UNLIKE);
        }
        if (!there(from, i, n) || !there(to, j, n)) {
            return find(BEYOND);
        }
        long[] ahead = from.places.clone();
        for (int k = 0; k < n; k++) {
            to.places[j + k] = ahead[i + k];
        }
        return 1;
    }

    // ---- 2 machines

    int machine(int kind, int n) {
        if (!within(kind, 0, 3) || n > 5) {
            return BAD;
        }
        int least = kind == 3 ? 2 : 1;
        int most = kind == 1 ? 1 : 5;
        if (n >= 0 && !within(n, least, most)) {
            return BAD;
        }
        if (machines.size() == 16) {
            return FULL;
        }
        if (n < 0) {
            return find(SIZE);
        }
        Machine one = new Machine();
        one.kind = kind;
        one.pays = new int[n];
        one.weights = new int[n][n];
        for (int k = 0; k < n; k++) {
            boolean last = k == n - 1;
            one.weights[k][kind >= 2 && !last ? k + 1 : k] = 1;
        }
        machines.add(one);
        return machines.size() - 1;
    }

    int is(int machine, int kind) {
        if (!isMachine(machine) || !within(kind, 0, 3)) {
            return BAD;
        }
        int own = machines.get(machine).kind;
        List<Integer> under = own == 0 ? List.of(0) : own == 1 ? List.of(1, 0) : own == 2 ? List.of(2, 0)
            : List.of(3, 2, 0);
        return under.contains(kind) ? 1 : 0;
    }

    int told(int machine, int what) {
        if (!isMachine(machine) || !within(what, 0, 2)) {
            return BAD;
        }
        Machine one = machines.get(machine);
        return new int[] {one.kind, one.pays.length, one.stands}[what];
    }

    int pay(int machine, int state, int v) {
        if (!isMachine(machine) || !within(v, -50, 50)) {
            return BAD;
        }
        if (!isState(machine, state)) {
            return find(BEYOND);
        }
        Machine one = machines.get(machine);
        if (hasNone(one, state)) {
            return STATE;
        }
        int was = one.pays[state];
        one.pays[state] = v;
        return was + 1000;
    }

    int chance(int machine, int state, int other, int w) {
        if (!isMachine(machine) || !within(w, 0, 10)) {
            return BAD;
        }
        Machine one = machines.get(machine);
        if (one.kind == 2 || one.kind == 3) {
            return find(UNLIKE);
        }
        if (!isState(machine, state) || !isState(machine, other)) {
            return find(BEYOND);
        }
        int[] row = one.weights[state].clone();
        row[other] = w;
        if (!within(Ways.sum(row), 1, 10)) {
            return STATE;
        }
        int was = one.weights[state][other];
        one.weights[state] = row;
        return was;
    }

    int fill(int machine, int sheet, int i) {
        if (!isMachine(machine) || !isSheet(sheet)) {
            return BAD;
        }
        Machine one = machines.get(machine);
        int n = one.pays.length;
        if (sheets.get(sheet).places == null) {
            return find(NOTHING);
        }
        if (!there(sheets.get(sheet), i, n)) {
            return find(BEYOND);
        }
        int[] pays = new int[n];
        for (int s = 0; s < n; s++) {
            long v = sheets.get(sheet).places[i + s];
            if (v < -50 || v > 50 || hasNone(one, s) && v != 0) {
                return STATE;
            }
            pays[s] = (int) v;
        }
        one.pays = pays;
        return n;
    }

    int ask(int machine, int state, int what) {
        if (!isMachine(machine)) {
            return BAD;
        }
        if (!isState(machine, state)) {
            return find(BEYOND);
        }
        Machine one = machines.get(machine);
        if (!within(what, 0, one.pays.length)) {
            return BAD;
        }
        asked = what == 0 ? one.pays[state] : one.weights[state][what - 1];
        return 1;
    }

    int stand(int machine, int state) {
        int refused = state(machine, state);
        if (refused != 0) {
            return refused;
        }
        int stood = machines.get(machine).stands;
        machines.get(machine).stands = state;
        return stood;
    }

    // ---- worths

    int worth(int machine, int state) {
        int refused = state(machine, state);
        return refused != 0 ? refused : tell(worths(machine)[state]);
    }

    int way(int machine, int state, int set) {
        if (!isMachine(machine) || !within(set, 0, 31)) {
            return BAD;
        }
        if (!isState(machine, state)) {
            return find(BEYOND);
        }
        return tell(value(machine, state, set));
    }

    long upper() {
        return told.top().longValueExact();
    }

    long lower() {
        return told.bottom().longValueExact();
    }

    int order(int machine, int i) {
        if (!isMachine(machine)) {
            return BAD;
        }
        Part[] worths = worths(machine);
        List<Integer> row = new ArrayList<>();
        for (int s = 0; s < worths.length; s++) {
            row.add(s);
        }
        row.sort((s, t) -> worths[t].against(worths[s]));
        return within(i, 0, row.size() - 1) ? row.get(i) : NONE;
    }

    int goes(int machine, int state) {
        int refused = state(machine, state);
        if (refused != 0) {
            return refused;
        }
        Part[] worths = worths(machine);
        int set = 0;
        for (int s = 0; s < worths.length; s++) {
            boolean stops = worths[s].against(worths[state]) < 0;
            set += stops ? 0 : 1 << s;
        }
        return set;
    }

    int even(int machine, int state, int a, int b) {
        if (!isMachine(machine) || !within(a, -1000000, 1000000) || !within(b, 0, 1000000)) {
            return BAD;
        }
        if (!isState(machine, state)) {
            return find(BEYOND);
        }
        if (b == 0) {
            return find(NOUGHT);
        }
        return oneNoughtTwo(worths(machine)[state].against(Part.of(a, b)));
    }

    int better(int machine, int state) {
        int refused = state(machine, state);
        if (refused != 0) {
            return refused;
        }
        return tell(worths(machine)[state].less(Part.of(machines.get(machine).pays[state], 1)));
    }

    int mean(int machine, int state) {
        int refused = state(machine, state);
        if (refused != 0) {
            return refused;
        }
        Machine one = machines.get(machine);
        Part mean = Part.ZERO;
        for (int s = 0; s < one.pays.length; s++) {
            Part chance = Part.of(one.weights[state][s], Ways.sum(one.weights[state]));
            mean = mean.plus(chance.times(Part.of(one.pays[s], 1)));
        }
        return tell(mean);
    }

    int row(int machine, int state) {
        if (!isMachine(machine)) {
            return BAD;
        }
        if (machines.get(machine).kind < 2) {
            return find(UNLIKE);
        }
        if (!isState(machine, state)) {
            return find(BEYOND);
        }
        int least = 0;
        Part greatest = null;
        int set = 0;
        for (int t = 1; state + t <= machines.get(machine).pays.length; t++) {
            set |= 1 << state + t - 1;
            Part value = value(machine, state, set);
            if (greatest == null || value.against(greatest) > 0) {
                greatest = value;
                least = t;
            }
        }
        return least;
    }

    int least(int machine) {
        if (!isMachine(machine)) {
            return BAD;
        }
        Part[] row = worths(machine).clone();
        Arrays.sort(row, Part::against);
        return tell(row[0]);
    }

    int compare(int machine, int state, int other, int at) {
        if (!isMachine(machine) || !isMachine(other)) {
            return BAD;
        }
        if (!isState(machine, state) || !isState(other, at)) {
            return find(BEYOND);
        }
        return oneNoughtTwo(worths(machine)[state].against(worths(other)[at]));
    }

    // ---- 3 the play

    int seed(int v) {
        if (v < 0) {
            return -1;
        }
        long was = seed;
        seed = v;
        return (int) was;
    }

    int best() {
        int best = NONE;
        for (int m = machines.size() - 1; m >= 0; m--) {
            best = best == NONE || now(m).against(now(best)) >= 0 ? m : best;
        }
        return best;
    }

    int work(int machine) {
        if (!isMachine(machine)) {
            return BAD;
        }
        step(machines.get(machine));
        return machines.get(machine).stands;
    }

    int run(int n) {
        if (!within(n, 0, 500)) {
            return -1000000;
        }
        if (machines.isEmpty()) {
            return -1000004;
        }
        long before = paid;
        steps.clear();
        for (int k = 0; k < n; k++) {
            steps.add(best());
            step(machines.get(steps.get(k)));
        }
        return (int) (paid - before);
    }

    int step(int i) {
        return within(i, 0, Math.min(steps.size(), 200) - 1) ? steps.get(i) : NONE;
    }

    int worked(int machine) {
        return isMachine(machine) ? machines.get(machine).worked : BAD;
    }

    long paid() {
        return paid;
    }

    // ---- what is told

    int fail(int machine, int what) {
        if (!isMachine(machine) || !within(what, 0, 2)) {
            return BAD;
        }
        return what == 0 ? find(THROWN) : what == 1 ? 2 : find(BEYOND);
    }

    long asked() {
        return asked;
    }

    int count(int what) {
        return within(what, 0, 4) ? new int[] {machines.size(), sheets.size(), p, q, (int) seed}[what] : BAD;
    }

    int finding() {
        return finding;
    }

    int findings(int f) {
        return within(f, 1, 6) ? findings[f] : BAD;
    }

    long digest() {
        List<Long> row = new ArrayList<>(List.of((long) p, (long) q, seed));
        for (Machine one : machines) {
            row.addAll(List.of((long) one.kind, (long) one.pays.length, (long) one.stands));
            for (int s = 0; s < one.pays.length; s++) {
                row.add((long) one.pays[s]);
                for (int w : one.weights[s]) {
                    row.add((long) w);
                }
            }
        }
        for (Sheet one : sheets) {
            row.add(one.places == null ? -1L : one.places.length);
            for (int i = 0; one.places != null && i < one.places.length; i++) {
                row.add(one.places[i]);
            }
        }
        long h = 17;
        for (long v : row) {
            h = 31 * h + v;
        }
        return h;
    }

    // ---- helpers

    int machines() {
        return machines.size();
    }

    int sheets() {
        return sheets.size();
    }

    private static boolean within(int v, int least, int most) {
        return least <= v && v <= most;
    }

    private boolean isMachine(int machine) {
        return within(machine, 0, machines.size() - 1);
    }

    private boolean isSheet(int sheet) {
        return within(sheet, 0, sheets.size() - 1);
    }

    private boolean isState(int machine, int state) {
        return within(state, 0, machines.get(machine).pays.length - 1);
    }

    private static boolean there(Sheet one, int i, int n) {
        return i >= 0 && n >= 0 && (long) i + n <= one.places.length;
    }

    private static boolean hasNone(Machine one, int state) {
        return one.kind == 3 && state != one.pays.length - 2;
    }

    /** BAD, NOTHING, BEYOND; 0 if the place is there. */
    private int place(int sheet, int i) {
        if (!isSheet(sheet)) {
            return BAD;
        }
        if (sheets.get(sheet).places == null) {
            return find(NOTHING);
        }
        return there(sheets.get(sheet), i, 1) ? 0 : find(BEYOND);
    }

    /** BAD, BEYOND; 0 if the state is there. */
    private int state(int machine, int state) {
        if (!isMachine(machine)) {
            return BAD;
        }
        return isState(machine, state) ? 0 : find(BEYOND);
    }

    private int find(int f) {
        finding = f;
        findings[f]++;
        return FINDING;
    }

    private int tell(Part one) {
        told = one;
        return 1;
    }

    private static int oneNoughtTwo(int sign) {
        return sign > 0 ? 1 : sign == 0 ? 0 : 2;
    }

    private Part value(int machine, int state, int set) {
        Machine one = machines.get(machine);
        return Ways.value(one.pays, one.weights, state, set, Part.of(p, q));
    }

    private Part[] worths(int machine) {
        Machine one = machines.get(machine);
        String all = p + " " + q + Arrays.toString(one.pays) + Arrays.deepToString(one.weights);
        return KNOWN.computeIfAbsent(all, key -> Ways.worths(one.pays, one.weights, Part.of(p, q)));
    }

    private Part now(int machine) {
        return worths(machine)[machines.get(machine).stands];
    }

    private void step(Machine one) {
        one.worked++;
        paid += one.pays[one.stands];
        seed = (seed * 1103515245 + 12345) % (1L << 31);
        int[] row = one.weights[one.stands];
        long draw = seed / 65536 % Ways.sum(row);
        int goal = 0;
        for (long upTo = row[0]; upTo <= draw; upTo += row[goal]) {
            goal++;
        }
        one.stands = goal;
    }
}
