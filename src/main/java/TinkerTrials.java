/**
 * A tinker with machines that pay by their state and change by chances, one worked at a time.
 * What each call answers is told by the numbered promises of DOC.md.
 */
public final class TinkerTrials {
    public static final int BAD = -1, FULL = -2, FINDING = -3, STATE = -4, NONE = -9;

    private static final int NOTHING = 1, BEYOND = 2, UNLIKE = 3, NOUGHT = 4, SIZE = 5, THROWN = 6;
    private static final int PLAIN = 0, STEADY = 1, AGEING = 2, JOB = 3;
    private static final int BYTES = 0, SHORTS = 1, INTS = 2, LONGS = 3;

    private static final int MOST_MACHINES = 16, MOST_STATES = 5, MOST_SHEETS = 12, MOST_PLACES = 24;
    private static final int MOST_PAY = 50, MOST_WEIGHT = 10, MOST_SET = 31, MOST_Q = 8;
    private static final int MOST_FEE = 1000000, MOST_RUN = 500, MOST_KEPT = 200;
    private static final int PAY_WAS = 1000, RUN_BAD = -1000000, RUN_STATE = -1000004;

    private final Machine[] machines = new Machine[MOST_MACHINES];
    private final Sheet[] sheets = new Sheet[MOST_SHEETS];
    private final Reckoner reckoner = new Reckoner();
    private final Fraction toldLast = new Fraction();
    private final int[] foundTimes = new int[THROWN + 1];
    private final int[] keptSteps = new int[MOST_KEPT];
    private int machineCount = 0;
    private int sheetCount = 0;
    private int shareUpper = 1;
    private int shareLower = 2;
    private int seedNow = 1;
    private int keptCount = 0;
    private int foundLast = 0;
    private long askedLast = 0;
    private long paidEver = 0;

    public TinkerTrials() {
    }

    // ---- 1 the share, sheets

    public int share(int p, int q) {
        if (p < 1 || p >= q || q > MOST_Q) {
            return BAD;
        }
        shareUpper = p;
        shareLower = q;
        for (int k = 0; k < machineCount; k++) {
            Machine one = machineAt(k);
            if (one != null) {
                one.weighed = false;
            }
        }
        return 1;
    }

    public int sheet(int kind, int n) {
        if (kind < BYTES || kind > LONGS || n > MOST_PLACES) {
            return BAD;
        }
        if (sheetCount < 0 || sheetCount >= sheets.length) {
            return FULL;
        }
        if (n < 0) {
            return found(SIZE);
        }
        sheets[sheetCount] = new Sheet(kind, n);
        sheetCount++;
        return sheetCount - 1;
    }

    public int tear(int sheet) {
        Sheet one = sheetAt(sheet);
        if (one == null) {
            return BAD;
        }
        if (one.missing) {
            return found(NOTHING);
        }
        one.missing = true;
        return 1;
    }

    public int lay(int sheet, int i, long v) {
        Sheet one = sheetAt(sheet);
        if (one == null) {
            return BAD;
        }
        if (one.missing) {
            return found(NOTHING);
        }
        if (!one.hasPlaces(i, 1)) {
            return found(BEYOND);
        }
        one.put(i, v);
        return 1;
    }

    public int get(int sheet, int i) {
        Sheet one = sheetAt(sheet);
        if (one == null) {
            return BAD;
        }
        if (one.missing) {
            return found(NOTHING);
        }
        if (!one.hasPlaces(i, 1)) {
            return found(BEYOND);
        }
        askedLast = one.placeAt(i);
        return 1;
    }

    public int copy(int sheet, int i, int other, int j, int n) {
        Sheet from = sheetAt(sheet);
        Sheet to = sheetAt(other);
        if (from == null || to == null) {
            return BAD;
        }
        if (from.missing || to.missing) {
            return found(NOTHING);
        }
        if (from.kind != to.kind) {
            return found(UNLIKE);
        }
        if (!from.hasPlaces(i, n) || !to.hasPlaces(j, n)) {
            return found(BEYOND);
        }
        System.arraycopy(from.places, i, to.places, j, n);
        return 1;
    }

    // ---- 2 machines

    public int machine(int kind, int n) {
        if (kind < PLAIN || kind > JOB || n > MOST_STATES) {
            return BAD;
        }
        if (n >= 0 && !fits(kind, n)) {
            return BAD;
        }
        if (machineCount < 0 || machineCount >= machines.length) {
            return FULL;
        }
        if (n < 0) {
            return found(SIZE);
        }
        machines[machineCount] = new Machine(kind, n);
        machineCount++;
        return machineCount - 1;
    }

    public int is(int machine, int kind) {
        Machine one = machineAt(machine);
        if (one == null || kind < PLAIN || kind > JOB) {
            return BAD;
        }
        return one.isUnder(kind) ? 1 : 0;
    }

    public int told(int machine, int what) {
        Machine one = machineAt(machine);
        if (one == null) {
            return BAD;
        }
        switch (what) {
            case 0: return one.kind;
            case 1: return one.size;
            case 2: return one.stands;
            default: return BAD;
        }
    }

    public int pay(int machine, int state, int v) {
        Machine one = machineAt(machine);
        if (one == null || !isPay(v)) {
            return BAD;
        }
        if (!one.has(state)) {
            return found(BEYOND);
        }
        if (!one.mayPay(state)) {
            return STATE;
        }
        int was = one.payAt(state);
        one.setPay(state, v);
        return PAY_WAS + was;
    }

    public int chance(int machine, int state, int other, int w) {
        Machine one = machineAt(machine);
        if (one == null || w < 0 || w > MOST_WEIGHT) {
            return BAD;
        }
        if (one.isUnder(AGEING)) {
            return found(UNLIKE);
        }
        if (!one.has(state) || !one.has(other)) {
            return found(BEYOND);
        }
        int was = one.weightAt(state, other);
        int sum = one.sumOf(state) - was + w;
        if (sum < 1 || sum > MOST_WEIGHT) {
            return STATE;
        }
        one.setWeight(state, other, w);
        return was;
    }

    public int fill(int machine, int sheet, int i) {
        Machine one = machineAt(machine);
        Sheet row = sheetAt(sheet);
        if (one == null || row == null) {
            return BAD;
        }
        if (row.missing) {
            return found(NOTHING);
        }
        if (!row.hasPlaces(i, one.size)) {
            return found(BEYOND);
        }
        for (int s = 0; s < one.size; s++) {
            long v = row.placeAt(i + s);
            if (!isPay(v) || (v != 0 && !one.mayPay(s))) {
                return STATE;
            }
        }
        for (int s = 0; s < one.size; s++) {
            one.setPay(s, (int) row.placeAt(i + s));
        }
        return one.size;
    }

    public int ask(int machine, int state, int what) {
        Machine one = machineAt(machine);
        if (one == null) {
            return BAD;
        }
        if (!one.has(state)) {
            return found(BEYOND);
        }
        if (what < 0 || what > one.size) {
            return BAD;
        }
        askedLast = what == 0 ? one.payAt(state) : one.weightAt(state, what - 1);
        return 1;
    }

    public int stand(int machine, int state) {
        Machine one = machineAt(machine);
        if (one == null) {
            return BAD;
        }
        if (!one.has(state)) {
            return found(BEYOND);
        }
        int was = one.stands;
        one.stands = state;
        return was;
    }

    // ---- worths

    public int worth(int machine, int state) {
        Machine one = machineAt(machine);
        if (one == null) {
            return BAD;
        }
        if (!one.has(state)) {
            return found(BEYOND);
        }
        toldLast.take(worthOf(one, state));
        return 1;
    }

    public int way(int machine, int state, int set) {
        Machine one = machineAt(machine);
        if (one == null || set < 0 || set > MOST_SET) {
            return BAD;
        }
        if (!one.has(state)) {
            return found(BEYOND);
        }
        toldLast.take(reckoner.valueOf(one, state, set, shareUpper, shareLower));
        return 1;
    }

    public long upper() {
        return toldLast.top;
    }

    public long lower() {
        return toldLast.bottom;
    }

    public int order(int machine, int i) {
        Machine one = machineAt(machine);
        if (one == null) {
            return BAD;
        }
        for (int s = 0; s < one.size; s++) {
            if (rankOf(one, s) == i) {
                return s;
            }
        }
        return NONE;
    }

    public int goes(int machine, int state) {
        Machine one = machineAt(machine);
        if (one == null) {
            return BAD;
        }
        if (!one.has(state)) {
            return found(BEYOND);
        }
        int set = 0;
        for (int s = 0; s < one.size; s++) {
            if (worthOf(one, s).against(worthOf(one, state)) >= 0) {
                set |= 1 << s;
            }
        }
        return set;
    }

    public int even(int machine, int state, int a, int b) {
        Machine one = machineAt(machine);
        if (one == null || a < -MOST_FEE || a > MOST_FEE || b < 0 || b > MOST_FEE) {
            return BAD;
        }
        if (!one.has(state)) {
            return found(BEYOND);
        }
        if (b == 0) {
            return found(NOUGHT);
        }
        Fraction worth = worthOf(one, state);
        return asAnswer(Fraction.weigh(worth.top, worth.bottom, a, b));
    }

    public int better(int machine, int state) {
        Machine one = machineAt(machine);
        if (one == null) {
            return BAD;
        }
        if (!one.has(state)) {
            return found(BEYOND);
        }
        Fraction worth = worthOf(one, state);
        toldLast.become(worth.top - one.payAt(state) * worth.bottom, worth.bottom);
        return 1;
    }

    public int mean(int machine, int state) {
        Machine one = machineAt(machine);
        if (one == null) {
            return BAD;
        }
        if (!one.has(state)) {
            return found(BEYOND);
        }
        long all = 0;
        for (int s = 0; s < one.size; s++) {
            all += one.weightAt(state, s) * one.payAt(s);
        }
        toldLast.become(all, one.sumOf(state));
        return 1;
    }

    public int row(int machine, int state) {
        Machine one = machineAt(machine);
        if (one == null) {
            return BAD;
        }
        if (!one.isUnder(AGEING)) {
            return found(UNLIKE);
        }
        if (!one.has(state)) {
            return found(BEYOND);
        }
        return reckoner.longestRow(one, state, shareUpper, shareLower);
    }

    public int least(int machine) {
        Machine one = machineAt(machine);
        if (one == null) {
            return BAD;
        }
        int lowest = 0;
        for (int s = 1; s < one.size; s++) {
            if (worthOf(one, s).against(worthOf(one, lowest)) < 0) {
                lowest = s;
            }
        }
        toldLast.take(worthOf(one, lowest));
        return 1;
    }

    public int compare(int machine, int state, int other, int at) {
        Machine first = machineAt(machine);
        Machine second = machineAt(other);
        if (first == null || second == null) {
            return BAD;
        }
        if (!first.has(state) || !second.has(at)) {
            return found(BEYOND);
        }
        return asAnswer(worthOf(first, state).against(worthOf(second, at)));
    }

    // ---- 3 the play

    public int seed(int v) {
        if (v < 0) {
            return BAD;
        }
        int was = seedNow;
        seedNow = v;
        return was;
    }

    public int best() {
        return bestMachine();
    }

    public int work(int machine) {
        Machine one = machineAt(machine);
        if (one == null) {
            return BAD;
        }
        workOnce(one);
        return one.stands;
    }

    public int run(int n) {
        if (n < 0 || n > MOST_RUN) {
            return RUN_BAD;
        }
        if (machineCount == 0) {
            return RUN_STATE;
        }
        keptCount = 0;
        int together = 0;
        for (int k = 0; k < n; k++) {
            int number = bestMachine();
            if (k < keptSteps.length) {
                keptSteps[k] = number;
                keptCount = k + 1;
            }
            together += workOnce(machineAt(number));
        }
        return together;
    }

    public int step(int i) {
        if (i < 0 || i >= keptCount || i >= keptSteps.length) {
            return NONE;
        }
        return keptSteps[i];
    }

    public int worked(int machine) {
        Machine one = machineAt(machine);
        return one == null ? BAD : one.steps;
    }

    public long paid() {
        return paidEver;
    }

    // ---- what is told

    public int fail(int machine, int what) {
        if (machineAt(machine) == null) {
            return BAD;
        }
        switch (what) {
            case 0: return found(THROWN);
            case 1: return 2;
            case 2: return found(BEYOND);
            default: return BAD;
        }
    }

    public long asked() {
        return askedLast;
    }

    public int count(int what) {
        switch (what) {
            case 0: return machineCount;
            case 1: return sheetCount;
            case 2: return shareUpper;
            case 3: return shareLower;
            case 4: return seedNow;
            default: return BAD;
        }
    }

    public int finding() {
        return foundLast;
    }

    public int findings(int f) {
        if (f < NOTHING || f > THROWN || f >= foundTimes.length) {
            return BAD;
        }
        return foundTimes[f];
    }

    public long digest() {
        long h = mix(mix(mix(17, shareUpper), shareLower), seedNow);
        for (int k = 0; k < machineCount; k++) {
            h = mixMachine(h, machineAt(k));
        }
        for (int k = 0; k < sheetCount; k++) {
            h = mixSheet(h, sheetAt(k));
        }
        return h;
    }

    // ---- helpers

    private Machine machineAt(int number) {
        if (number < 0 || number >= machineCount || number >= machines.length) {
            return null;
        }
        return machines[number];
    }

    private Sheet sheetAt(int number) {
        if (number < 0 || number >= sheetCount || number >= sheets.length) {
            return null;
        }
        return sheets[number];
    }

    /** Keeps a finding and answers that there is one. */
    private int found(int f) {
        if (f >= 0 && f < foundTimes.length) {
            foundLast = f;
            foundTimes[f]++;
        }
        return FINDING;
    }

    private static boolean isPay(long v) {
        return v >= -MOST_PAY && v <= MOST_PAY;
    }

    /** Whether a machine of a kind may have n states. */
    private static boolean fits(int kind, int n) {
        if (kind == STEADY) {
            return n == 1;
        }
        return n >= (kind == JOB ? 2 : 1) && n <= MOST_STATES;
    }

    /** What the calls answer for greater (1), alike (0), less (2). */
    private static int asAnswer(int sign) {
        if (sign == 0) {
            return 0;
        }
        return sign > 0 ? 1 : 2;
    }

    /** The worth of a state that the machine has; reckoned again only after something changed. */
    private Fraction worthOf(Machine one, int state) {
        if (!one.weighed) {
            reckoner.reckonWorths(one, shareUpper, shareLower);
        }
        return one.worthAt(state);
    }

    /** How many states are ahead of a state in the order. */
    private int rankOf(Machine one, int state) {
        int ahead = 0;
        for (int s = 0; s < one.size; s++) {
            int sign = worthOf(one, s).against(worthOf(one, state));
            if (sign > 0 || (sign == 0 && s < state)) {
                ahead++;
            }
        }
        return ahead;
    }

    private int bestMachine() {
        int number = NONE;
        Fraction greatest = null;
        for (int k = 0; k < machineCount; k++) {
            Machine one = machineAt(k);
            if (one != null) {
                Fraction worth = worthOf(one, one.stands);
                if (greatest == null || worth.against(greatest) > 0) {
                    greatest = worth;
                    number = k;
                }
            }
        }
        return number;
    }

    /** Works a machine and answers what it paid. */
    private int workOnce(Machine one) {
        if (one == null) {
            return 0;
        }
        int gain = one.payAt(one.stands);
        one.stands = one.goal(draw(one.sumOf(one.stands)));
        one.steps++;
        paidEver += gain;
        return gain;
    }

    private int draw(int sum) {
        seedNow = (int) ((seedNow * 1103515245L + 12345L) & 0x7fffffffL);
        return sum > 0 ? seedNow / 65536 % sum : 0;
    }

    private static long mix(long h, long v) {
        return 31 * h + v;
    }

    private static long mixMachine(long h, Machine one) {
        if (one == null) {
            return h;
        }
        long mixed = mix(mix(mix(h, one.kind), one.size), one.stands);
        for (int s = 0; s < one.size; s++) {
            mixed = mix(mixed, one.payAt(s));
            for (int t = 0; t < one.size; t++) {
                mixed = mix(mixed, one.weightAt(s, t));
            }
        }
        return mixed;
    }

    private static long mixSheet(long h, Sheet one) {
        if (one == null || one.missing) {
            return mix(h, -1);
        }
        long mixed = mix(h, one.places.length);
        for (int i = 0; i < one.places.length; i++) {
            mixed = mix(mixed, one.places[i]);
        }
        return mixed;
    }

    /** A row of numbers of one kind, or a missing one. */
    private static final class Sheet {
        private final int kind;
        private final long[] places;
        private boolean missing = false;

        Sheet(int kind, int n) {
            this.kind = kind;
            this.places = new long[Math.max(0, Math.min(MOST_PLACES, n))];
        }

        /** Whether n places from i on are there; the sum of both might not fit an int. */
        boolean hasPlaces(int i, int n) {
            return i >= 0 && n >= 0 && n <= places.length && i <= places.length - n;
        }

        long placeAt(int i) {
            return i >= 0 && i < places.length ? places[i] : 0;
        }

        void put(int i, long v) {
            if (i >= 0 && i < places.length) {
                places[i] = cut(v);
            }
        }

        private long cut(long v) {
            switch (kind) {
                case BYTES: return (byte) v;
                case SHORTS: return (short) v;
                case INTS: return (int) v;
                default: return v;
            }
        }
    }

    /** A machine: its kind, pays, weights, where it stands, and its worths while they hold. */
    private static final class Machine {
        private final int kind;
        private final int size;
        private final int[] pays;
        private final int[] weights;
        private final Fraction[] worths;
        private boolean weighed = false;
        private int stands = 0;
        private int steps = 0;

        Machine(int kind, int n) {
            this.kind = kind;
            this.size = Math.max(1, Math.min(MOST_STATES, n));
            this.pays = new int[size];
            this.weights = new int[size * size];
            this.worths = new Fraction[size];
            boolean ageing = kind == AGEING || kind == JOB;
            for (int s = 0; s < size; s++) {
                int next = ageing && s < size - 1 ? s + 1 : s;
                weights[s * size + next] = 1;
                worths[s] = new Fraction();
            }
        }

        boolean has(int state) {
            return state >= 0 && state < size;
        }

        boolean isUnder(int other) {
            return other == PLAIN || other == kind || (other == AGEING && kind == JOB);
        }

        boolean mayPay(int state) {
            return kind != JOB || state == size - 2;
        }

        int payAt(int state) {
            return state >= 0 && state < pays.length ? pays[state] : 0;
        }

        void setPay(int state, int v) {
            if (state >= 0 && state < pays.length) {
                pays[state] = v;
                weighed = false;
            }
        }

        int weightAt(int state, int other) {
            if (state < 0 || state >= size || other < 0 || other >= size) {
                return 0;
            }
            return weights[state * size + other];
        }

        void setWeight(int state, int other, int w) {
            if (has(state) && has(other)) {
                weights[state * size + other] = w;
                weighed = false;
            }
        }

        int sumOf(int state) {
            int sum = 0;
            int begin = state >= 0 && state < size ? state * size : weights.length;
            for (int at = begin; at < begin + size && at < weights.length; at++) {
                sum += weights[at];
            }
            return sum;
        }

        /** Where a draw leads from the state at which it stands. */
        int goal(int drawn) {
            int sum = 0;
            for (int s = 0; s < size; s++) {
                sum += weightAt(stands, s);
                if (sum > drawn) {
                    return s;
                }
            }
            return stands;
        }

        /** The first state's worth stands in for a state that there is not. */
        Fraction worthAt(int state) {
            return worths[state >= 0 && state < worths.length ? state : 0];
        }
    }

    /** A fraction in lowest terms, its lower number above 0. */
    private static final class Fraction {
        // Euclid's way ends within 92 steps for any two longs.
        private static final int MOST_TURNS = 200;

        private long top = 0;
        private long bottom = 1;

        void take(Fraction other) {
            top = other.top;
            bottom = other.bottom;
        }

        /** Becomes a by b, b above 0. */
        void become(long a, long b) {
            long divisor = common(Math.abs(a), b);
            if (b > 0 && divisor > 0) {
                top = a / divisor;
                bottom = b / divisor;
            }
        }

        int against(Fraction other) {
            return weigh(top, bottom, other.top, other.bottom);
        }

        private static long common(long a, long b) {
            long one = a;
            long other = b;
            for (int k = 0; k < MOST_TURNS && other != 0; k++) {
                long rest = one % other;
                one = other;
                other = rest;
            }
            return one;
        }

        /**
         * 1, 0 or -1 as a by b is greater than, like or less than c by d; b and d are above 0.
         * The products across might not fit a long, so the wholes are held against each other,
         * and where they are alike, what is left of both, upside down.
         */
        static int weigh(long a, long b, long c, long d) {
            long a1 = a, b1 = b, c1 = c, d1 = d;
            int sign = 1;
            for (int k = 0; k < MOST_TURNS && b1 > 0 && d1 > 0; k++) {
                long whole = Math.floorDiv(a1, b1);
                long otherWhole = Math.floorDiv(c1, d1);
                if (whole != otherWhole) {
                    return whole > otherWhole ? sign : -sign;
                }
                long rest = a1 - whole * b1;
                long otherRest = c1 - otherWhole * d1;
                a1 = b1;
                b1 = rest;
                c1 = d1;
                d1 = otherRest;
                sign = -sign;
            }
            if (b1 == d1) {
                return 0;
            }
            return b1 == 0 ? sign : -sign;
        }
    }

    /** Reckons values and worths in rows that are made once. */
    private static final class Reckoner {
        private static final int WIDTH = MOST_STATES + 1;

        private final long[] cells = new long[MOST_STATES * WIDTH];
        private final int[] states = new int[MOST_STATES];
        private final Fraction value = new Fraction();
        private final Fraction greatest = new Fraction();

        /**
         * The value of a way begun at a state that the machine has; it holds until the next reckoning.
         * Coming back to the start begins the same anew, which leaves the ratio as it is: so
         * the start is no unknown, and it is the same whether it is in the set or not.
         */
        Fraction valueOf(Machine one, int start, int set, int p, int q) {
            int rows = listStates(one, start, set);
            for (int r = 0; r < rows; r++) {
                layRow(one, r, rows, p, q);
            }
            eliminate(rows);
            value.become(cellAt(rows - 1, rows - 1), cellAt(rows - 1, rows));
            return value;
        }

        /**
         * All worths of a machine. The ways that count for a state go on at the states worth more
         * than it: so the greatest worth is found first, and each next one by the way of all found.
         */
        void reckonWorths(Machine one, int p, int q) {
            int done = 0;
            for (int k = 0; k < one.size; k++) {
                int next = -1;
                for (int s = 0; s < one.size; s++) {
                    if ((done >> s & 1) == 0) {
                        Fraction now = valueOf(one, s, done, p, q);
                        if (next < 0 || now.against(greatest) > 0) {
                            greatest.take(now);
                            next = s;
                        }
                    }
                }
                if (next >= 0) {
                    one.worthAt(next).take(greatest);
                    done |= 1 << next;
                }
            }
            one.weighed = true;
        }

        /** The least number of states from one on, worked in a row, for which the value is greatest. */
        int longestRow(Machine one, int start, int p, int q) {
            int set = 0;
            int least = 0;
            for (int s = start; s < one.size; s++) {
                set |= 1 << s;
                Fraction now = valueOf(one, start, set, p, q);
                if (least == 0 || now.against(greatest) > 0) {
                    greatest.take(now);
                    least = s - start + 1;
                }
            }
            return least;
        }

        /** Lists the set's states but the start, then the start; answers how many. */
        private int listStates(Machine one, int start, int set) {
            int rows = 0;
            for (int s = 0; s < one.size && rows < states.length - 1; s++) {
                if (s != start && (set >> s & 1) != 0) {
                    states[rows] = s;
                    rows++;
                }
            }
            states[rows] = start;
            return rows + 1;
        }

        /** Lays the equation of a listed state: what later steps bring, then its pay, then its step. */
        private void layRow(Machine one, int r, int rows, int p, int q) {
            if (r < 0 || r >= states.length) {
                return;
            }
            int state = states[r];
            long whole = (long) q * one.sumOf(state);
            for (int c = 0; c < rows - 1 && c < states.length; c++) {
                long own = c == r ? whole : 0;
                setCell(r, c, own - (long) p * one.weightAt(state, states[c]));
            }
            setCell(r, rows - 1, whole * one.payAt(state));
            setCell(r, rows, whole);
        }

        /**
         * Clears below the diagonal without fractions: each cell stays a determinant of the first
         * rows, so the division leaves nothing over and all stays below 2^63.
         */
        private void eliminate(int rows) {
            long before = 1;
            for (int k = 0; k < rows - 1; k++) {
                long pivot = cellAt(k, k);
                for (int r = k + 1; r < rows; r++) {
                    long head = cellAt(r, k);
                    for (int c = k + 1; c <= rows; c++) {
                        long crossed = pivot * cellAt(r, c) - head * cellAt(k, c);
                        setCell(r, c, before == 0 ? 0 : crossed / before);
                    }
                }
                before = pivot;
            }
        }

        private long cellAt(int r, int c) {
            int at = r * WIDTH + c;
            return at >= 0 && at < cells.length ? cells[at] : 0;
        }

        private void setCell(int r, int c, long v) {
            int at = r * WIDTH + c;
            if (at >= 0 && at < cells.length) {
                cells[at] = v;
            }
        }
    }
}
