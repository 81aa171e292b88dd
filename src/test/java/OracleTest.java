/**
 * Promises 16 to 27 and 29 to 31 on machines drawn by a seed, against worths reckoned as the terms say it:
 * all ways of a machine, each by the means of its pays and of its steps, in fractions without a bound.
 */
public final class OracleTest {
    private static final int TRIALS = 600;
    private static long drawn = 20261118;

    /** A machine as it was drawn. */
    private record Drawn(int kind, int n, int[] pays, int[][] weights, Part[] worths) {
    }

    private OracleTest() {
    }

    public static void main(String[] args) {
        for (int k = 0; k < TRIALS; k++) {
            trial(k);
        }
        for (int k = 0; k < TRIALS; k++) {
            play(k);
        }
        Check.end("OracleTest");
    }

    private static int draw(int below) {
        drawn = drawn * 6364136223846793005L + 1442695040888963407L;
        return (int) ((drawn >>> 33) % below);
    }

    /** Few pays make alike worths, extreme ones the longest numbers. */
    private static int drawPay(int style) {
        switch (style) {
            case 0: return draw(101) - 50;
            case 1: return draw(3) - 1;
            case 2: return 50 - draw(2);
            default: return draw(2) * 99 - 50 + draw(2);
        }
    }

    private static int[] drawWeights(int n, int style) {
        int[] row = new int[n];
        int left = style == 0 ? 10 : 1 + draw(10);
        while (left > 0) {
            int part = 1 + draw(left);
            row[draw(n)] += part;
            left -= part;
        }
        return row;
    }

    /** Makes a machine in x and reckons all its worths. */
    private static Drawn drawMachine(TinkerTrials x, int number, int kind, int p, int q) {
        int n = kind == 1 ? 1 : kind == 3 ? 2 + draw(4) : 1 + draw(5);
        int style = draw(4);
        int[] pays = new int[n];
        int[][] weights = new int[n][n];
        x.machine(kind, n);
        for (int s = 0; s < n; s++) {
            if (kind != 3 || s == n - 2) {
                pays[s] = drawPay(style);
                x.pay(number, s, pays[s]);
            }
            if (kind < 2) {
                weights[s] = drawWeights(n, draw(2));
                Worlds.weigh(x, number, s, weights[s]);
            } else {
                weights[s][Math.min(n - 1, s + 1)] = 1;
            }
        }
        return new Drawn(kind, n, pays, weights, Ways.worths(pays, weights, Part.of(p, q)));
    }

    private static Part value(Drawn one, int start, int set, Part share) {
        return Ways.value(one.pays, one.weights, start, set, share);
    }

    private static void tells(String what, TinkerTrials x, int answer, Part due) {
        Check.tells(what, x, answer, due.top().longValueExact(), due.bottom().longValueExact());
    }

    private static void trial(int k) {
        TinkerTrials x = new TinkerTrials();
        int q = k % 3 == 0 ? 8 : 2 + draw(7);
        int p = k % 3 == 0 ? 7 : 1 + draw(q - 1);
        x.share(p, q);
        Drawn one = drawMachine(x, 0, k % 4, p, q);
        String name = "trial " + k;
        Part least = one.worths[0];
        for (int s = 0; s < one.n; s++) {
            Part worth = one.worths[s];
            tells(name + " 16 worth of " + s, x, x.worth(0, s), worth);
            tells(name + " 23 better of " + s, x, x.better(0, s), worth.less(Part.of(one.pays[s], 1)));
            Check.due(name + " 21 goes for " + s, x.goes(0, s), goes(one, s));
            Check.due(name + " 20 order at " + s, x.order(0, s), ordered(one, s));
            evens(name + " 22 even of " + s, x, s, worth);
            means(name + " 24 mean of " + s, x, one, s);
            for (int t = 0; t < one.n; t++) {
                int sign = worth.against(one.worths[t]);
                Check.due(name + " 27 compare " + s + " to " + t, x.compare(0, s, 0, t), sign < 0 ? 2 : sign);
            }
            if (one.kind >= 2) {
                Check.due(name + " 25 row of " + s, x.row(0, s), row(one, s, Part.of(p, q)));
            }
            least = worth.against(least) < 0 ? worth : least;
        }
        Check.due(name + " 20 order behind all", x.order(0, one.n), TinkerTrials.NONE);
        tells(name + " 26 least", x, x.least(0), least);
        int start = draw(one.n);
        for (int set = 0; set < 32; set++) {
            tells(name + " 17 way " + set + " of " + start, x, x.way(0, start, set),
                value(one, start, set, Part.of(p, q)));
        }
    }

    private static void evens(String what, TinkerTrials x, int s, Part worth) {
        long whole = worth.top().divide(worth.bottom()).longValueExact();
        for (int b = 1; b <= 1000000; b = b * 37 + 1) {
            for (long a = whole * b - 1; a <= whole * b + 1; a++) {
                if (Math.abs(a) <= 1000000) {
                    int sign = worth.against(Part.of(a, b));
                    Check.due(what + " at " + a + " by " + b, x.even(0, s, (int) a, b), sign < 0 ? 2 : sign);
                }
            }
        }
        if (worth.bottom().bitLength() < 20 && worth.top().bitLength() < 20) {
            int fee = worth.top().intValueExact();
            Check.due(what + " at itself", x.even(0, s, fee, worth.bottom().intValueExact()), 0);
        }
    }

    private static void means(String what, TinkerTrials x, Drawn one, int s) {
        int all = 0;
        int sum = 0;
        for (int t = 0; t < one.n; t++) {
            all += one.weights[s][t] * one.pays[t];
            sum += one.weights[s][t];
        }
        tells(what, x, x.mean(0, s), Part.of(all, sum));
    }

    private static int goes(Drawn one, int s) {
        int set = 0;
        for (int t = 0; t < one.n; t++) {
            set |= one.worths[t].against(one.worths[s]) < 0 ? 0 : 1 << t;
        }
        return set;
    }

    private static int ordered(Drawn one, int place) {
        boolean[] out = new boolean[one.n];
        int next = -1;
        for (int k = 0; k <= place; k++) {
            next = -1;
            for (int s = 0; s < one.n; s++) {
                if (!out[s] && (next < 0 || one.worths[s].against(one.worths[next]) > 0)) {
                    next = s;
                }
            }
            out[next] = true;
        }
        return next;
    }

    private static int row(Drawn one, int s, Part share) {
        int best = 1;
        for (int t = 2; t <= one.n - s; t++) {
            Part longer = value(one, s, ((1 << t) - 1) << s, share);
            best = longer.against(value(one, s, ((1 << best) - 1) << s, share)) > 0 ? t : best;
        }
        return best;
    }

    private static void play(int k) {
        TinkerTrials x = new TinkerTrials();
        int q = 2 + draw(7);
        int p = 1 + draw(q - 1);
        x.share(p, q);
        int many = 1 + draw(6);
        Drawn[] all = new Drawn[many];
        int[] stands = new int[many];
        for (int m = 0; m < many; m++) {
            all[m] = drawMachine(x, m, draw(4), p, q);
            stands[m] = draw(all[m].n);
            x.stand(m, stands[m]);
        }
        long seed = draw(Integer.MAX_VALUE);
        x.seed((int) seed);
        int n = 1 + draw(30);
        int got = x.run(n);
        int together = 0;
        for (int i = 0; i < n; i++) {
            int best = 0;
            for (int m = 1; m < many; m++) {
                best = all[m].worths[stands[m]].against(all[best].worths[stands[best]]) > 0 ? m : best;
            }
            Check.due("play " + k + " 32 step " + i, x.step(i), best);
            int at = stands[best];
            together += all[best].pays[at];
            seed = (seed * 1103515245L + 12345) % (1L << 31);
            stands[best] = goal(all[best].weights[at], seed / 65536);
        }
        Check.due("play " + k + " 31 run", got, together);
        Check.due("play " + k + " 34 paid", x.paid(), together);
        Check.due("play " + k + " 28 seed", x.count(4), seed);
        for (int m = 0; m < many; m++) {
            Check.due("play " + k + " 15 stands", x.told(m, 2), stands[m]);
        }
    }

    private static int goal(int[] weights, long whole) {
        int[] tickets = new int[10];
        int sum = 0;
        for (int t = 0; t < weights.length; t++) {
            for (int w = 0; w < weights[t]; w++) {
                tickets[sum++] = t;
            }
        }
        return tickets[(int) (whole % sum)];
    }
}
