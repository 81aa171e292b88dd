/** Objects in which calls are tried, and all that such an object tells but its findings. */
final class Worlds {
    static final int LEAST = Integer.MIN_VALUE, MOST = Integer.MAX_VALUE;
    private static final int MOST_TOLD = 256;
    private static final int[] NO_MACHINE = {-1, 4, 15, 16, MOST, LEAST};
    private static final int[] NO_SHEET = {-1, 5, 11, 12, MOST, LEAST};

    private Worlds() {
    }

    static TinkerTrials empty() {
        return new TinkerTrials();
    }

    /** Numbers of no machine in the mixed world. */
    static int[] noMachine() {
        return NO_MACHINE.clone();
    }

    /** Numbers of no sheet in the mixed world. */
    static int[] noSheet() {
        return NO_SHEET.clone();
    }

    /** One machine alone, with a pay for each state that may have one. */
    static TinkerTrials one(int kind, int n) {
        TinkerTrials x = new TinkerTrials();
        x.machine(kind, n);
        for (int s = 0; s < n; s++) {
            x.pay(0, s, 7 - 3 * s);
        }
        return x;
    }

    /** A machine and a sheet of longs. */
    static TinkerTrials laid(int kind, int n, long... places) {
        TinkerTrials x = new TinkerTrials();
        x.machine(kind, n);
        x.sheet(3, places.length);
        for (int i = 0; i < places.length; i++) {
            x.lay(0, i, places[i]);
        }
        return x;
    }

    /** An AGEING alone, at a share. */
    static TinkerTrials ageing(int p, int q, int... pays) {
        TinkerTrials x = new TinkerTrials();
        x.share(p, q);
        x.machine(2, pays.length);
        for (int s = 0; s < pays.length; s++) {
            x.pay(0, s, pays[s]);
        }
        return x;
    }

    /** Whether a machine of a kind may have n states. */
    static boolean fits(int kind, int n) {
        switch (kind) {
            case 0: return 1 <= n && n <= 5;
            case 1: return n == 1;
            case 2: return 1 <= n && n <= 5;
            case 3: return 2 <= n && n <= 5;
            default: return false;
        }
    }

    /**
     * Machines: 0 a MACHINE of 3, 1 a STEADY, 2 an AGEING of 4, 3 a JOB of 3.
     * Sheets: 0 bytes 6, 1 longs 4, 2 shorts 3 (missing), 3 longs 6, 4 ints 0.
     */
    static TinkerTrials mixed() {
        TinkerTrials x = new TinkerTrials();
        x.share(2, 3);
        x.machine(0, 3);
        x.machine(1, 1);
        x.machine(2, 4);
        x.machine(3, 3);
        x.pay(0, 0, 1);
        x.pay(0, 1, 9);
        x.pay(0, 2, -4);
        x.chance(0, 0, 1, 1);
        x.chance(0, 0, 2, 2);
        x.chance(0, 1, 0, 3);
        x.chance(0, 2, 1, 3);
        x.pay(1, 0, 3);
        x.pay(2, 0, 2);
        x.pay(2, 1, 8);
        x.pay(2, 2, 8);
        x.pay(2, 3, 1);
        x.pay(3, 1, 12);
        x.sheet(0, 6);
        x.sheet(3, 4);
        x.sheet(1, 3);
        x.sheet(3, 6);
        x.sheet(2, 0);
        x.tear(2);
        for (int i = 0; i < 6; i++) {
            x.lay(0, i, 10 + i);
            x.lay(3, i, -1000000000000L * i);
        }
        x.lay(1, 1, 51);
        x.lay(1, 2, 7);
        x.seed(12345);
        x.stand(0, 1);
        x.run(7);
        x.work(2);
        x.get(0, 3);
        x.worth(0, 2);
        x.get(2, 0);
        return x;
    }

    /** All 16 machines and all 12 sheets are there. */
    static TinkerTrials full() {
        TinkerTrials x = new TinkerTrials();
        for (int k = 0; k < 16; k++) {
            x.machine(k % 4 == 1 ? 1 : 0, 1);
            x.pay(k, 0, k % 5);
        }
        for (int k = 0; k < 12; k++) {
            x.sheet(k % 4, 2);
        }
        x.tear(3);
        x.run(3);
        return x;
    }

    /** Gives a state that has weight 1 for itself alone the weights of a row, the sum never 0 or above 10. */
    static void weigh(TinkerTrials x, int machine, int state, int[] row) {
        for (int t = 0; t < row.length && row[state] == 0; t++) {
            if (row[t] > 0) {
                x.chance(machine, state, t, 1);
                x.chance(machine, state, state, 0);
                break;
            }
        }
        for (int t = 0; t < row.length; t++) {
            x.chance(machine, state, t, row[t]);
        }
    }

    /** What an object tells, but for its findings; the object is spent then. */
    static long[] all(TinkerTrials x) {
        long[] row = new long[MOST_TOLD];
        int n = 0;
        row[n++] = x.digest();
        row[n++] = x.upper();
        row[n++] = x.lower();
        row[n++] = x.asked();
        row[n++] = x.paid();
        row[n++] = x.best();
        for (int what = 0; what <= 4; what++) {
            row[n++] = x.count(what);
        }
        for (int i = 0; i < 10; i++) {
            row[n++] = x.step(i);
        }
        for (int k = 0; k < x.count(0); k++) {
            row[n++] = x.worked(k);
            for (int s = 0; s < x.told(k, 1); s++) {
                row[n++] = x.worth(k, s);
                row[n++] = x.upper();
                row[n++] = x.lower();
            }
        }
        row[n++] = x.run(20);
        row[n++] = x.paid();
        row[n++] = x.count(4);
        return java.util.Arrays.copyOf(row, n);
    }
}
