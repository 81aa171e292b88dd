/** Promises 35 to 40: what is told. */
public final class ToldTest {
    private static final int BAD = TinkerTrials.BAD, FINDING = TinkerTrials.FINDING;
    private static final int NOTHING = 1, BEYOND = 2, UNLIKE = 3, NOUGHT = 4, SIZE = 5, THROWN = 6;
    private static final int LEAST = Integer.MIN_VALUE, MOST = Integer.MAX_VALUE;

    private ToldTest() {
    }

    public static void main(String[] args) {
        fails();
        askedLast();
        counts();
        findings();
        digestOfMachines();
        digestOfSheets();
        Check.end("ToldTest");
    }

    private static void fails() {
        for (int machine = 0; machine < 4; machine++) {
            int m = machine;
            Check.finds("35 none is thrown by " + m, Worlds::mixed, x -> x.fail(m, 0), THROWN);
            Check.refused("35 its own is caught, of " + m, Worlds::mixed, x -> x.fail(m, 1), 2);
            Check.finds("35 a PAY behind the last one of " + m, Worlds::mixed, x -> x.fail(m, 2), BEYOND);
        }
        int[] none = {-1, 4, 16, MOST, LEAST};
        for (int machine : none) {
            for (int what = 0; what <= 2; what++) {
                int w = what;
                Check.refused("35 no machine " + machine, Worlds::mixed, x -> x.fail(machine, w), BAD);
            }
        }
        int[] wrong = {-1, 3, MOST, LEAST};
        for (int what : wrong) {
            Check.refused("35 what " + what, Worlds::mixed, x -> x.fail(0, what), BAD);
        }
    }

    private static void askedLast() {
        TinkerTrials x = new TinkerTrials();
        Check.due("36 before", x.asked(), 0);
        x.machine(0, 2);
        x.sheet(3, 1);
        x.lay(0, 0, 1L << 40);
        x.pay(0, 1, -50);
        Check.due("36 lay() tells nothing", x.asked(), 0);
        x.get(0, 0);
        Check.due("36 get", x.asked(), 1L << 40);
        x.ask(0, 1, 0);
        Check.due("36 ask", x.asked(), -50);
        x.get(0, 1);
        x.get(1, 0);
        x.ask(0, 2, 0);
        x.ask(0, 0, 3);
        x.tear(0);
        x.get(0, 0);
        x.pay(0, 1, 3);
        Check.due("36 what is refused tells nothing", x.asked(), -50);
        x.ask(0, 0, 1);
        Check.due("36 a weight", x.asked(), 1);
    }

    private static void counts() {
        TinkerTrials x = Worlds.mixed();
        Check.due("37 machines", x.count(0), 4);
        Check.due("37 sheets, missing ones too", x.count(1), 5);
        Check.due("37 p", x.count(2), 2);
        Check.due("37 q", x.count(3), 3);
        x.seed(77);
        Check.due("37 the seed", x.count(4), 77);
        int[] wrong = {-1, 5, MOST, LEAST};
        for (int what : wrong) {
            Check.refused("37 what " + what, Worlds::mixed, y -> y.count(what), BAD);
        }
    }

    private static void findings() {
        TinkerTrials x = new TinkerTrials();
        x.machine(0, 1);
        x.machine(2, 1);
        x.sheet(0, 0);
        x.sheet(0, 0);
        x.tear(1);
        int[] times = new int[7];
        for (int k = 0; k < 30; k++) {
            int f = 1 + k * 5 % 6;
            int g = k % 4 == 0 ? THROWN : f;
            Check.due("38 found " + g, find(x, g), FINDING);
            times[g]++;
            Check.due("38 finding", x.finding(), g);
            Check.due("39 findings of " + g, x.findings(g), times[g]);
        }
        x.pay(0, 0, 99);
        x.worth(0, 0);
        for (int f = 1; f <= 6; f++) {
            Check.due("39 in all, of " + f, x.findings(f), times[f]);
        }
        int[] wrong = {0, -1, 7, MOST, LEAST};
        for (int f : wrong) {
            Check.refused("39 of " + f, Worlds::mixed, y -> y.findings(f), BAD);
        }
    }

    private static int find(TinkerTrials x, int finding) {
        switch (finding) {
            case NOTHING: return x.get(1, 0);
            case BEYOND: return x.stand(0, 1);
            case UNLIKE: return x.row(0, 0);
            case NOUGHT: return x.even(0, 0, 1, 0);
            case SIZE: return x.machine(0, -1);
            default: return x.fail(0, 0);
        }
    }

    private static long mixed(long... row) {
        long h = 17;
        for (long v : row) {
            h = 31 * h + v;
        }
        return h;
    }

    private static void digestOfMachines() {
        TinkerTrials x = new TinkerTrials();
        Check.due("40 of nothing", x.digest(), mixed(1, 2, 1));
        x.share(3, 7);
        x.seed(MOST);
        Check.due("40 share and seed", x.digest(), mixed(3, 7, MOST));
        x.machine(0, 2);
        x.machine(3, 2);
        x.pay(0, 0, -7);
        x.pay(0, 1, 9);
        x.pay(1, 0, 5);
        x.chance(0, 0, 1, 4);
        x.chance(0, 1, 0, 6);
        x.stand(0, 1);
        Check.due("40 machines", x.digest(),
            mixed(3, 7, MOST, 0, 2, 1, -7, 1, 4, 9, 6, 1, 3, 2, 0, 5, 0, 1, 0, 0, 1));
    }

    private static void digestOfSheets() {
        TinkerTrials x = new TinkerTrials();
        x.sheet(0, 2);
        x.sheet(3, 0);
        x.sheet(1, 3);
        x.sheet(3, 1);
        x.lay(0, 0, 200);
        x.lay(0, 1, 3);
        x.lay(2, 0, 9);
        x.lay(3, 0, Long.MIN_VALUE);
        Check.due("40 sheets", x.digest(), mixed(1, 2, 1, 2, -56, 3, 0, 3, 9, 0, 0, 1, Long.MIN_VALUE));
        x.tear(2);
        Check.due("40 a missing sheet", x.digest(), mixed(1, 2, 1, 2, -56, 3, 0, -1, 1, Long.MIN_VALUE));
        x.machine(1, 1);
        Check.due("40 machines ahead of sheets", x.digest(),
            mixed(1, 2, 1, 1, 1, 0, 0, 1, 2, -56, 3, 0, -1, 1, Long.MIN_VALUE));
    }
}
