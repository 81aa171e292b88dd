/**
 * What is told depends on nothing but what stands now: after many changes, a new object that is given the same
 * pays, weights, places where they stand, share and seed tells the same.
 */
public final class FreshTest {
    // An object answers 512 calls: its changes, and some 300 in which it is held against a fresh one.
    private static final int RUNS = 3000, CHANGES = 80, MOST_MACHINES = 3;
    private static long drawn = 4051;

    private FreshTest() {
    }

    public static void main(String[] args) {
        for (int k = 0; k < RUNS; k++) {
            oneRun(k);
        }
        Check.end("FreshTest");
    }

    private static int draw(int below) {
        drawn = drawn * 6364136223846793005L + 1442695040888963407L;
        return (int) ((drawn >>> 33) % below);
    }

    private static void oneRun(int run) {
        TinkerTrials x = new TinkerTrials();
        x.sheet(0, 24);
        for (int i = 0; i < 24; i++) {
            x.lay(0, i, draw(101) - 50);
        }
        for (int k = 0; k < CHANGES; k++) {
            change(x, draw(MOST_MACHINES));
        }
        alike("run " + run, x, fresh(x));
    }

    /** Changes something, or asks for what may be kept until something changes. */
    private static void change(TinkerTrials x, int machine) {
        switch (draw(12)) {
            case 0: x.machine(draw(4), x.count(0) < MOST_MACHINES ? draw(6) : 0); break;
            case 1: x.share(1 + draw(4), 2 + draw(7)); break;
            case 2: x.fill(machine, 0, draw(24)); break;
            case 3: x.stand(machine, draw(5)); break;
            case 4: x.work(machine); break;
            case 5: x.run(draw(4)); break;
            case 6: x.pay(machine, draw(5), draw(5) - 2); break;
            case 7: x.pay(machine, draw(5), draw(101) - 50); break;
            case 8: x.worth(machine, draw(5)); break;
            case 9: x.best(); break;
            default: x.chance(machine, draw(5), draw(5), draw(11)); break;
        }
    }

    private static TinkerTrials fresh(TinkerTrials x) {
        TinkerTrials y = new TinkerTrials();
        y.share(x.count(2), x.count(3));
        y.seed(x.count(4));
        for (int m = 0; m < x.count(0); m++) {
            int n = x.told(m, 1);
            y.machine(x.told(m, 0), n);
            y.stand(m, x.told(m, 2));
            for (int s = 0; s < n; s++) {
                x.ask(m, s, 0);
                y.pay(m, s, (int) x.asked());
                int[] row = new int[n];
                for (int t = 0; t < n; t++) {
                    x.ask(m, s, t + 1);
                    row[t] = (int) x.asked();
                }
                Worlds.weigh(y, m, s, row);
            }
        }
        return y;
    }

    private static void alike(String what, TinkerTrials x, TinkerTrials y) {
        Check.due(what + ": machines", y.count(0), x.count(0));
        Check.due(what + ": best", x.best(), y.best());
        for (int m = 0; m < x.count(0); m++) {
            for (int s = 0; s < x.told(m, 1); s++) {
                Check.due(what + ": order", x.order(m, s), y.order(m, s));
                Check.due(what + ": goes", x.goes(m, s), y.goes(m, s));
                Check.due(what + ": even", x.even(m, s, 1, 2), y.even(m, s, 1, 2));
                Check.due(what + ": compare", x.compare(m, s, 0, 0), y.compare(m, s, 0, 0));
                Check.due(what + ": row", x.row(m, s), y.row(m, s));
                y.worth(m, s);
                Check.tells(what + ": worth", x, x.worth(m, s), y.upper(), y.lower());
                y.better(m, s);
                Check.tells(what + ": better", x, x.better(m, s), y.upper(), y.lower());
                y.mean(m, s);
                Check.tells(what + ": mean", x, x.mean(m, s), y.upper(), y.lower());
                y.way(m, s, 21);
                Check.tells(what + ": way", x, x.way(m, s, 21), y.upper(), y.lower());
            }
            y.least(m);
            Check.tells(what + ": least", x, x.least(m), y.upper(), y.lower());
        }
        if (x.count(0) > 0) {
            long before = x.paid();
            Check.due(what + ": run", x.run(5), y.run(5));
            Check.due(what + ": paid", x.paid() - before, y.paid());
            Check.due(what + ": seed", x.count(4), y.count(4));
            for (int i = 0; i < 5; i++) {
                Check.due(what + ": step", x.step(i), y.step(i));
            }
        }
    }
}
