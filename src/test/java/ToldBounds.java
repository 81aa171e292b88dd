/** Promises 35 to 40, sentence by sentence. */
final class ToldBounds {
    private static final int BAD = TinkerTrials.BAD, FINDING = TinkerTrials.FINDING;
    private static final int NOTHING = 1, BEYOND = 2, UNLIKE = 3, NOUGHT = 4, SIZE = 5, THROWN = 6;
    private static final int LEAST = Worlds.LEAST, MOST = Worlds.MOST;

    private ToldBounds() {
    }

    static void all() {
        Sentences.promise(35, "int fail(int machine, int what)");
        Sentences.bound("A MACHINE throws: what = 0 none (THROWN), 1 a failure of its own, which is caught (2 is "
            + "answered), 2 that of a PAY behind its last one (BEYOND).", ToldBounds::fails);
        Sentences.bound("BAD: MACHINE, what.", ToldBounds::noFails);
        Sentences.promise(36, "long asked()");
        Sentences.bound("What the latest get(), ask() that answered 1 told; 0 before.", ToldBounds::asked);
        Sentences.promise(37, "int count(int what)");
        Sentences.bound("0 MACHINES, 1 SHEETS, 2 p, 3 q, 4 THE SEED.", ToldBounds::counts);
        Sentences.bound("BAD.", ToldBounds::noCounts);
        Sentences.promise(38, "int finding()");
        Sentences.bound("The latest FINDING (0 before any).", ToldBounds::finding);
        Sentences.promise(39, "int findings(int f)");
        Sentences.bound("How often a FINDING (1 .. 6) was answered.", ToldBounds::findings);
        Sentences.bound("BAD.", ToldBounds::noFindings);
        Sentences.promise(40, "long digest()");
        Sentences.bound("h = 17; then h = 31 h + v for each v: p, q, THE SEED; of each MACHINE told() 0 to 2, of each "
            + "STATE its PAY and WEIGHTS; of each SHEET its places (-1: missing), and these.", ToldBounds::digests);
    }

    /** A call that finds what is asked for, in the mixed world. */
    static int find(TinkerTrials x, int finding) {
        switch (finding) {
            case NOTHING: return x.tear(2);
            case BEYOND: return x.get(0, 6);
            case UNLIKE: return x.row(0, 0);
            case NOUGHT: return x.even(0, 0, 0, 0);
            case SIZE: return x.sheet(0, -1);
            default: return x.fail(0, 0);
        }
    }

    private static void fails() {
        for (int k = 0; k <= 3; k++) {
            int machine = k;
            Check.finds("none, of " + k, Worlds::mixed, x -> x.fail(machine, 0), THROWN);
            Check.refused("its own is caught, of " + k, Worlds::mixed, x -> x.fail(machine, 1), 2);
            Check.finds("behind its last PAY, of " + k, Worlds::mixed, x -> x.fail(machine, 2), BEYOND);
        }
        Check.finds("none, of the 16th", Worlds::full, x -> x.fail(15, 0), THROWN);
        Check.refused("its own, of the 16th", Worlds::full, x -> x.fail(15, 1), 2);
        Check.finds("behind its last PAY, of the 16th", Worlds::full, x -> x.fail(15, 2), BEYOND);
    }

    private static void noFails() {
        int[] whats = {-1, 3, MOST, LEAST};
        for (int machine : Worlds.noMachine()) {
            for (int what = -1; what <= 3; what++) {
                int w = what;
                Check.refused("machine " + machine + ", " + w, Worlds::mixed, x -> x.fail(machine, w), BAD);
            }
        }
        for (int what : whats) {
            Check.refused("what " + what, Worlds::mixed, x -> x.fail(0, what), BAD);
        }
        Check.refused("none at all", Worlds::empty, x -> x.fail(0, 0), BAD);
    }

    private static void asked() {
        TinkerTrials x = new TinkerTrials();
        Check.due("before", x.asked(), 0);
        x.get(0, 0);
        x.ask(0, 0, 0);
        x.machine(0, 1);
        x.sheet(3, 1);
        x.lay(0, 0, Long.MIN_VALUE);
        x.get(0, 1);
        x.ask(0, 0, 2);
        x.ask(0, 1, 0);
        Check.due("before, by what is refused", x.asked(), 0);
        x.get(0, 0);
        Check.due("get", x.asked(), Long.MIN_VALUE);
        x.ask(0, 0, 1);
        Check.due("ask", x.asked(), 1);
        x.get(0, 0);
        Check.due("get again", x.asked(), Long.MIN_VALUE);
        x.get(0, -1);
        x.get(1, 0);
        x.ask(0, -1, 0);
        x.ask(0, 0, -1);
        x.lay(0, 0, 5);
        x.tear(0);
        x.get(0, 0);
        x.worth(0, 0);
        x.run(1);
        Check.due("nothing else tells", x.asked(), Long.MIN_VALUE);
    }

    private static void counts() {
        TinkerTrials x = new TinkerTrials();
        for (int k = 0; k <= 16; k++) {
            Check.due("machines", x.count(0), k);
            x.machine(0, 1);
        }
        Check.due("machines, never more", x.count(0), 16);
        for (int k = 0; k <= 12; k++) {
            Check.due("sheets", x.count(1), k);
            x.sheet(0, 0);
            x.tear(k);
        }
        Check.due("sheets, never more", x.count(1), 12);
        x.share(7, 8);
        x.seed(MOST);
        x.share(8, 8);
        x.seed(-1);
        Check.due("p", x.count(2), 7);
        Check.due("q", x.count(3), 8);
        Check.due("the seed", x.count(4), MOST);
    }

    private static void noCounts() {
        for (int what : new int[] {-1, 5, 6, MOST, LEAST}) {
            Check.refused("what " + what, Worlds::mixed, x -> x.count(what), BAD);
        }
    }

    private static void finding() {
        TinkerTrials x = new TinkerTrials();
        Check.due("before any", x.finding(), 0);
        x.tear(0);
        x.run(1);
        x.best();
        x.step(0);
        x.machine(3, 2);
        x.pay(0, 1, 0);
        Check.due("none by BAD, STATE, NONE", x.finding(), 0);
        for (int k = 0; k < 16; k++) {
            x.machine(0, 1);
        }
        Check.due("none by FULL", x.finding(), 0);
        x.fail(0, 1);
        Check.due("none by what is caught", x.finding(), 0);
        x = Worlds.mixed();
        for (int f = THROWN; f >= NOTHING; f--) {
            find(x, f);
            Check.due("the latest", x.finding(), f);
            x.worth(0, 0);
            x.tear(5);
            Check.due("it stays", x.finding(), f);
        }
    }

    private static void findings() {
        for (int f = NOTHING; f <= THROWN; f++) {
            TinkerTrials x = Worlds.mixed();
            long[] before = new long[THROWN + 1];
            for (int g = NOTHING; g <= THROWN; g++) {
                Check.due("none in a new object", Worlds.empty().findings(g), 0);
                before[g] = x.findings(g);
            }
            for (int k = 0; k < 200; k++) {
                Check.due("found", find(x, f), FINDING);
            }
            for (int g = NOTHING; g <= THROWN; g++) {
                Check.due("of " + g + " by " + f, x.findings(g), before[g] + (g == f ? 200 : 0));
            }
        }
    }

    private static void noFindings() {
        for (int f : new int[] {-1, 0, 7, 8, MOST, LEAST}) {
            Check.refused("of " + f, Worlds::mixed, x -> x.findings(f), BAD);
        }
    }

    private static long mixed(long... row) {
        long h = 17;
        for (long v : row) {
            h = 31 * h + v;
        }
        return h;
    }

    private static void digests() {
        TinkerTrials x = new TinkerTrials();
        Check.due("nothing there", x.digest(), mixed(1, 2, 1));
        x.share(7, 8);
        x.seed(MOST);
        Check.due("the greatest seed", x.digest(), mixed(7, 8, MOST));
        x.sheet(3, 0);
        Check.due("a sheet without places", x.digest(), mixed(7, 8, MOST, 0));
        x.tear(0);
        Check.due("a missing one", x.digest(), mixed(7, 8, MOST, -1));
        x.sheet(3, 2);
        x.lay(1, 0, Long.MAX_VALUE);
        x.lay(1, 1, Long.MIN_VALUE);
        Check.due("around", x.digest(), mixed(7, 8, MOST, -1, 2, Long.MAX_VALUE, Long.MIN_VALUE));
        x.machine(1, 1);
        x.machine(3, 3);
        x.pay(0, 0, -50);
        x.chance(0, 0, 0, 10);
        x.pay(1, 1, 50);
        x.stand(1, 2);
        Check.due("machines ahead of sheets", x.digest(), mixed(7, 8, MOST, 1, 1, 0, -50, 10,
            3, 3, 2, 0, 0, 1, 0, 50, 0, 0, 1, 0, 0, 0, 1, -1, 2, Long.MAX_VALUE, Long.MIN_VALUE));
        Check.due("asked again", x.digest(), mixed(7, 8, MOST, 1, 1, 0, -50, 10,
            3, 3, 2, 0, 0, 1, 0, 50, 0, 0, 1, 0, 0, 0, 1, -1, 2, Long.MAX_VALUE, Long.MIN_VALUE));
        full();
    }

    /** All places of all sheets, and all weights of all machines, wrapped around many times. */
    private static void full() {
        TinkerTrials x = new TinkerTrials();
        long[] row = new long[3 + 16 * (3 + 5 * 6) + 12 * 25];
        int n = 0;
        row[n++] = 1;
        row[n++] = 2;
        row[n++] = 1;
        for (int k = 0; k < 16; k++) {
            x.machine(0, 5);
            row[n++] = 0;
            row[n++] = 5;
            row[n++] = 0;
            for (int s = 0; s < 5; s++) {
                row[n++] = 0;
                for (int t = 0; t < 5; t++) {
                    row[n++] = s == t ? 1 : 0;
                }
            }
        }
        for (int k = 0; k < 12; k++) {
            x.sheet(3, 24);
            row[n++] = 24;
            for (int i = 0; i < 24; i++) {
                long v = k % 2 == 0 ? Long.MAX_VALUE - i : Long.MIN_VALUE + i;
                x.lay(k, i, v);
                row[n++] = v;
            }
        }
        Check.due("the fullest", x.digest(), mixed(row));
    }
}
