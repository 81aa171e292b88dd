/** Promises 28 to 34, sentence by sentence. */
final class PlayBounds {
    private static final int BAD = TinkerTrials.BAD, NONE = TinkerTrials.NONE;
    private static final int RUN_BAD = -1000000, RUN_STATE = -1000004;
    private static final int LEAST = Worlds.LEAST, MOST = Worlds.MOST;

    private PlayBounds() {
    }

    static void all() {
        Sentences.promise(28, "int seed(int v)");
        Sentences.bound("THE SEED is v (0 .. 2^31 - 1): what it was.", PlayBounds::seeds);
        Sentences.bound("BAD (told as -1).", PlayBounds::noSeeds);
        Sentences.promise(29, "int best()");
        Sentences.bound("The MACHINE that THE PLAY works next; NONE: there is none.", PlayBounds::bests);
        Sentences.promise(30, "int work(int machine)");
        Sentences.bound("A MACHINE is worked: the STATE at which it STANDS then.", PlayBounds::works);
        Sentences.bound("BAD.", PlayBounds::noWorks);
        Sentences.promise(31, "int run(int n)");
        Sentences.bound("THE PLAY works n times (0 .. 500): what all these paid together.", PlayBounds::runs);
        Sentences.bound("BAD (told as -1000000): n; STATE (-1000004): no MACHINE.", PlayBounds::noRuns);
        Sentences.promise(32, "int step(int i)");
        Sentences.bound("Which MACHINE step i of the latest run() worked (the first 200 are kept); NONE: none such.",
            PlayBounds::steps);
        Sentences.promise(33, "int worked(int machine)");
        Sentences.bound("How many steps were worked on a MACHINE ever (work(), run()).", PlayBounds::worked);
        Sentences.bound("BAD.", PlayBounds::noWorked);
        Sentences.promise(34, "long paid()");
        Sentences.bound("All that was paid ever.", PlayBounds::paid);
    }

    /** STEADY machines, each with a pay. */
    private static TinkerTrials steady(int... pays) {
        TinkerTrials x = new TinkerTrials();
        for (int k = 0; k < pays.length; k++) {
            x.machine(1, 1);
            x.pay(k, 0, pays[k]);
        }
        return x;
    }

    private static void seeds() {
        int[] row = {0, MOST, MOST - 1, 1, 0, 65536, MOST};
        TinkerTrials x = new TinkerTrials();
        int was = 1;
        for (int v : row) {
            Check.due("seed " + v, x.seed(v), was);
            Check.due("it is", x.count(4), v);
            was = v;
        }
    }

    private static void noSeeds() {
        for (int v : new int[] {-1, -2, LEAST, LEAST + 1}) {
            Check.refused("seed " + v, Worlds::mixed, x -> x.seed(v), -1);
            Check.refused("seed " + v + " of a new object", Worlds::empty, x -> x.seed(v), -1);
        }
    }

    private static void bests() {
        Check.refused("none", Worlds::empty, x -> x.best(), NONE);
        TinkerTrials x = steady(-50);
        Check.due("the only one", x.best(), 0);
        x = steady(1, 1, 2, 2, 1);
        Check.due("the least of alike ones", x.best(), 2);
        Check.due("asked again", x.best(), 2);
        Check.due("nothing is worked by that", x.worked(2), 0);
        Check.due("the seed stays", x.count(4), 1);
        x = steady(0, 0, 0, 0, 0, 0, 0, 0, 0, 0, 0, 0, 0, 0, 0, 1);
        Check.due("the last of 16", x.best(), 15);
        Check.due("it is worked next", x.run(1), 1);
        Check.due("by its number", x.step(0), 15);
    }

    private static void works() {
        for (int n = 1; n <= 5; n++) {
            TinkerTrials x = Worlds.one(2, n);
            for (int k = 0; k < 6; k++) {
                Check.due("an AGEING of " + n, x.work(0), Math.min(k + 1, n - 1));
                Check.due("it stands there", x.told(0, 2), Math.min(k + 1, n - 1));
            }
            x = Worlds.one(0, n);
            x.stand(0, n - 1);
            Check.due("the last state, to itself", x.work(0), n - 1);
            Check.due("the seed goes on", x.count(4), 1103527590);
        }
        TinkerTrials x = steady(new int[16]);
        Check.due("the last one of 16", x.work(15), 0);
        Check.due("is worked", x.worked(15), 1);
    }

    private static void noWorks() {
        for (int machine : Worlds.noMachine()) {
            Check.refused("machine " + machine, Worlds::mixed, x -> x.work(machine), BAD);
        }
        Check.refused("none at all", Worlds::empty, x -> x.work(0), BAD);
        Check.refused("a 17th", Worlds::full, x -> x.work(16), BAD);
    }

    private static void runs() {
        for (int pay = -50; pay <= 50; pay += 50) {
            TinkerTrials x = steady(pay);
            Check.due("0 times " + pay, x.run(0), 0);
            Check.due("none worked", x.worked(0), 0);
            Check.due("the seed stays", x.count(4), 1);
            Check.due("1 times " + pay, x.run(1), pay);
            Check.due("500 times " + pay, x.run(500), 500 * pay);
            Check.due("501 times " + pay, x.run(501), RUN_BAD);
            Check.due("in all", x.worked(0), 501);
        }
    }

    private static void noRuns() {
        for (int n : new int[] {-1, 501, 502, MOST, LEAST}) {
            Check.refused(n + " times", Worlds::mixed, x -> x.run(n), RUN_BAD);
            Check.refused(n + " times, no machine", Worlds::empty, x -> x.run(n), RUN_BAD);
        }
        for (int n : new int[] {0, 1, 500}) {
            Check.refused(n + " times, no machine", Worlds::empty, x -> x.run(n), RUN_STATE);
        }
    }

    private static void steps() {
        TinkerTrials x = steady(0, 1);
        Check.due("before any run", x.step(0), NONE);
        x.work(1);
        Check.due("work() is no step of a run", x.step(0), NONE);
        int[] lengths = {1, 199, 200, 201, 500, 2, 0};
        for (int n : lengths) {
            x.run(n);
            int kept = Math.min(n, 200);
            Check.due("the first of " + n, x.step(0), n == 0 ? NONE : 1);
            Check.due("the last kept of " + n, x.step(kept - 1), n == 0 ? NONE : 1);
            Check.due("behind it, of " + n, x.step(kept), NONE);
            Check.due("-1", x.step(-1), NONE);
            Check.due("far behind", x.step(MOST), NONE);
            Check.due("far ahead", x.step(LEAST), NONE);
        }
        x.run(200);
        x.pay(0, 0, 50);
        Check.due("an earlier run's stay till the next", x.step(199), 1);
        Check.due("a refused run", x.run(501), RUN_BAD);
        Check.due("changes none", x.step(199), 1);
        x.run(3);
        Check.due("the latest", x.step(2), 0);
        Check.due("nothing of the one before", x.step(3), NONE);
    }

    private static void worked() {
        TinkerTrials x = steady(1, 0);
        Check.due("none at first", x.worked(0), 0);
        x.run(500);
        x.run(500);
        x.work(0);
        x.work(1);
        x.run(0);
        x.run(501);
        Check.due("by both", x.worked(0), 1001);
        Check.due("by work() alone", x.worked(1), 1);
    }

    private static void noWorked() {
        for (int machine : Worlds.noMachine()) {
            Check.refused("machine " + machine, Worlds::mixed, x -> x.worked(machine), BAD);
        }
        Check.refused("none at all", Worlds::empty, x -> x.worked(0), BAD);
    }

    private static void paid() {
        for (int pay = -50; pay <= 50; pay += 100) {
            TinkerTrials x = steady(pay);
            Check.due("none at first", x.paid(), 0);
            for (int k = 0; k < 400; k++) {
                x.run(500);
            }
            Check.due("as much as there can be", x.paid(), 400L * 500 * pay);
            x.work(0);
            x.run(-1);
            x.work(1);
            Check.due("and once more", x.paid(), (400L * 500 + 1) * pay);
        }
    }
}
