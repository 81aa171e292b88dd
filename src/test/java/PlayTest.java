/** Promises 28 to 34: the play. */
public final class PlayTest {
    private static final int BAD = TinkerTrials.BAD, NONE = TinkerTrials.NONE;
    private static final int RUN_BAD = -1000000, RUN_STATE = -1000004;
    private static final int LEAST = Integer.MIN_VALUE, MOST = Integer.MAX_VALUE;
    private static final int[] NO_MACHINE = {-1, 4, 16, MOST, LEAST};

    private PlayTest() {
    }

    public static void main(String[] args) {
        seeds();
        bests();
        works();
        drawsByWeights();
        runs();
        runsAsWorkOfTheBest();
        refusedRuns();
        steps();
        workedAndPaid();
        Check.end("PlayTest");
    }

    private static void seeds() {
        TinkerTrials x = new TinkerTrials();
        Check.due("28 at first 1", x.seed(0), 1);
        Check.due("28 it was 0", x.seed(MOST), 0);
        Check.due("28 it was the greatest", x.seed(5), MOST);
        Check.due("28 told", x.count(4), 5);
        Check.refused("28 -1", Worlds::mixed, y -> y.seed(-1), BAD);
        Check.refused("28 the least", Worlds::mixed, y -> y.seed(LEAST), BAD);
    }

    private static void bests() {
        TinkerTrials x = new TinkerTrials();
        Check.due("29 none", x.best(), NONE);
        x.machine(1, 1);
        Check.due("29 the only one", x.best(), 0);
        x.machine(1, 1);
        Check.due("29 the least of alike ones", x.best(), 0);
        x.pay(1, 0, 1);
        Check.due("29 the greater one", x.best(), 1);
        x.machine(2, 2);
        x.pay(2, 1, 4);
        Check.due("29 by worth, not by pay", x.best(), 2);
        x.share(1, 8);
        Check.due("29 by the share", x.best(), 1);
        x.stand(2, 1);
        Check.due("29 by where it stands", x.best(), 2);
        x.stand(2, 0);
        x.pay(0, 0, 1);
        Check.due("29 the least of alike ones again", x.best(), 0);
        x.pay(0, 0, -1);
        x.pay(1, 0, -2);
        x.pay(2, 0, -50);
        x.pay(2, 1, -50);
        Check.due("29 all below 0", x.best(), 0);
        Check.due("29 changes nothing", x.count(4), 1);
    }

    private static void works() {
        TinkerTrials x = new TinkerTrials();
        x.machine(2, 3);
        x.pay(0, 0, 7);
        x.pay(0, 1, -2);
        Check.due("30 to the next one", x.work(0), 1);
        Check.due("30 the seed", x.count(4), (1103515245L + 12345) % (1L << 31));
        Check.due("30 paid by where it stood", x.paid(), 7);
        Check.due("30 to the last one", x.work(0), 2);
        Check.due("30 the last one to itself", x.work(0), 2);
        Check.due("30 stands", x.told(0, 2), 2);
        Check.due("30 paid", x.paid(), 5);
        x.seed(MOST);
        x.work(0);
        Check.due("30 the seed, from the greatest", x.count(4), (MOST * 1103515245L + 12345) % (1L << 31));
        x.seed(0);
        x.work(0);
        Check.due("30 the seed, from 0", x.count(4), 12345);
        for (int machine : NO_MACHINE) {
            Check.refused("30 no machine " + machine, Worlds::mixed, y -> y.work(machine), BAD);
        }
    }

    /** Every draw of 1 .. 10 weights, to the first state above it. */
    private static void drawsByWeights() {
        int[][] weights = {{1, 0, 0, 0, 0}, {0, 1, 0, 1, 1}, {2, 0, 3, 0, 4}, {0, 0, 0, 0, 10}, {2, 2, 2, 2, 2}};
        for (int[] row : weights) {
            TinkerTrials x = new TinkerTrials();
            x.machine(0, 5);
            Worlds.weigh(x, 0, 0, row);
            int sum = row[0] + row[1] + row[2] + row[3] + row[4];
            long seed = 99;
            x.seed(99);
            for (int k = 0; k < 60; k++) {
                seed = (seed * 1103515245L + 12345) % (1L << 31);
                long draw = seed / 65536 % sum;
                int due = 0;
                for (long above = row[0]; above <= draw; above += row[due]) {
                    due++;
                }
                x.stand(0, 0);
                Check.due("30 draw " + draw + " of " + sum, x.work(0), due);
                Check.due("30 the seed", x.count(4), seed);
            }
        }
    }

    private static void runs() {
        TinkerTrials x = new TinkerTrials();
        x.machine(1, 1);
        x.machine(2, 3);
        x.pay(0, 0, 3);
        x.pay(1, 0, 5);
        x.pay(1, 1, 4);
        x.pay(1, 2, -1);
        Check.due("31 none", x.run(0), 0);
        Check.due("31 none: the seed", x.count(4), 1);
        Check.due("31 two, then the other one", x.run(4), 5 + 4 + 3 + 3);
        Check.due("31 where it stands", x.told(1, 2), 2);
        Check.due("31 most", x.run(500), 1500);
        Check.due("31 paid", x.paid(), 1515);
        x.pay(0, 0, -50);
        Check.due("31 below 0", x.run(2), -2);
        x.pay(1, 2, -50);
        Check.due("31 the lowest of all", x.run(500), -25000);
        Check.due("31 the least of alike ones", x.step(0), 0);
    }

    private static void runsAsWorkOfTheBest() {
        TinkerTrials x = Worlds.mixed();
        TinkerTrials y = Worlds.mixed();
        long before = y.paid();
        int n = 40;
        int together = x.run(n);
        for (int k = 0; k < n; k++) {
            int best = y.best();
            y.work(best);
            Check.due("31 step " + k, x.step(k), best);
        }
        Check.due("31 as much", together, y.paid() - before);
        Check.due("31 alike then", x.digest(), y.digest());
    }

    private static void refusedRuns() {
        Check.refused("31 n -1", Worlds::mixed, x -> x.run(-1), RUN_BAD);
        Check.refused("31 n 501", Worlds::mixed, x -> x.run(501), RUN_BAD);
        Check.refused("31 n above all", Worlds::mixed, x -> x.run(MOST), RUN_BAD);
        Check.refused("31 n below all", Worlds::mixed, x -> x.run(LEAST), RUN_BAD);
        Check.due("31 no machine", new TinkerTrials().run(1), RUN_STATE);
        Check.due("31 no machine, 0 times", new TinkerTrials().run(0), RUN_STATE);
        Check.due("31 BAD ahead of STATE", new TinkerTrials().run(501), RUN_BAD);
        TinkerTrials x = new TinkerTrials();
        x.run(1);
        Check.due("31 no finding", x.finding(), 0);
        Check.due("31 the seed stays", x.count(4), 1);
    }

    private static void steps() {
        TinkerTrials x = new TinkerTrials();
        x.machine(1, 1);
        x.machine(1, 1);
        x.pay(1, 0, 1);
        Check.due("32 before any", x.step(0), NONE);
        x.work(0);
        Check.due("32 not of work()", x.step(0), NONE);
        x.run(199);
        Check.due("32 the first", x.step(0), 1);
        Check.due("32 the last of 199", x.step(198), 1);
        Check.due("32 behind it", x.step(199), NONE);
        x.pay(0, 0, 2);
        x.run(500);
        Check.due("32 the last that is kept", x.step(199), 0);
        Check.due("32 one behind it", x.step(200), NONE);
        Check.due("32 of the latest", x.step(5), 0);
        Check.due("32 -1", x.step(-1), NONE);
        Check.due("32 far behind", x.step(MOST), NONE);
        Check.due("32 far ahead", x.step(LEAST), NONE);
        x.run(501);
        Check.due("32 a refused one is none", x.step(199), 0);
        x.run(2);
        Check.due("32 a shorter one", x.step(1), 0);
        Check.due("32 behind the shorter one", x.step(2), NONE);
        x.run(0);
        Check.due("32 one of 0", x.step(0), NONE);
    }

    private static void workedAndPaid() {
        TinkerTrials x = new TinkerTrials();
        x.machine(1, 1);
        x.machine(1, 1);
        x.pay(0, 0, 4);
        x.pay(1, 0, -6);
        Check.due("33 none", x.worked(0), 0);
        x.work(1);
        x.work(1);
        x.run(300);
        x.run(200);
        x.work(0);
        Check.due("33 by both", x.worked(0), 501);
        Check.due("33 by work()", x.worked(1), 2);
        Check.due("34 ever", x.paid(), 501 * 4 - 12);
        for (int machine : NO_MACHINE) {
            Check.refused("33 no machine " + machine, Worlds::mixed, y -> y.worked(machine), BAD);
        }
    }
}
