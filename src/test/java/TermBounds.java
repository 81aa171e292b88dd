import java.math.BigInteger;

/** 'Terms', sentence by sentence. */
final class TermBounds {
    private static final int BAD = TinkerTrials.BAD, FULL = TinkerTrials.FULL, STATE = TinkerTrials.STATE;
    private static final int FINDING = TinkerTrials.FINDING, NONE = TinkerTrials.NONE;
    private static final int NOTHING = 1, BEYOND = 2, UNLIKE = 3, NOUGHT = 4, SIZE = 5, THROWN = 6;
    private static final int LEAST = Worlds.LEAST, MOST = Worlds.MOST;

    private TermBounds() {
    }

    static void all() {
        Sentences.terms();
        Sentences.plain("======== ANSWERS.");
        Sentences.bound("Refused is, the first of these that fits, in this order: BAD -1 (a number that is none, or "
            + "not as told), FULL -2, STATE -4 (not now), FINDING -3 (finding() tells which), unless a call says so "
            + "otherwise.", TermBounds::order);
        Sentences.bound("NONE -9.", TermBounds::none);
        Sentences.bound("What is refused changes nothing but finding(), findings().", TermBounds::refused);
        Sentences.bound("FINDINGS: 1 NOTHING (nothing is there), 2 BEYOND (a place that there is not), 3 UNLIKE (of "
            + "another kind), 4 NOUGHT (shared among none), 5 SIZE (fewer than none), 6 THROWN (what was to be thrown "
            + "is none).", TermBounds::findings);
        Sentences.bound("1 THE SHARE is p by q (1 <= p < q <= 8; 1 by 2 at first): what comes a step later counts so "
            + "many times less.", TermBounds::share);
        Sentences.bound("SHEETS 0, 1, .. (12 at most) are rows of bytes (kind 0), shorts (1), ints (2), longs (3), of "
            + "0 to 24 places, or missing.", TermBounds::sheets);
        machines();
        ways();
        Sentences.bound("3 THE PLAY: of all MACHINES the one at whose STATE it STANDS the WORTH is greatest (the "
            + "least MACHINE of alike ones) is worked:", TermBounds::play);
        Sentences.bound("it pays, and goes to a STATE by a DRAW:", TermBounds::paysAndGoes);
        Sentences.bound("THE SEED becomes itself times 1103515245 and 12345, modulo 2^31;", TermBounds::seed);
        Sentences.bound("the DRAW is THE SEED by 65536 (cut), modulo the sum of WEIGHTS; the STATE is the first one of "
            + "which the sum of WEIGHTS up to it is above the DRAW.", TermBounds::draw);
        interfaceLines();
    }

    private static void machines() {
        Sentences.bound("2 MACHINES 0, 1, .. (16 at most) are of a KIND: 0 MACHINE, 1 STEADY (a MACHINE, too), 2 "
            + "AGEING (a MACHINE), 3 JOB (an AGEING).", TermBounds::machinesAndKinds);
        Sentences.bound("They have STATES 0 .. n - 1 (1 .. 5; STEADY 1; JOB 2 .. 5).", TermBounds::states);
        Sentences.bound("Each STATE has a PAY (-50 .. 50, 0 at first)", TermBounds::pay);
        Sentences.bound("and WEIGHTS for the STATES (0 .. 10): the CHANCE to go to one is its WEIGHT by the sum of "
            + "them (which is 1 .. 10).", TermBounds::weights);
        Sentences.bound("At first a MACHINE's STATE has WEIGHT 1 for itself.", TermBounds::weightsAtFirst);
        Sentences.bound("Of an AGEING: STATE k leads to k + 1 alone (WEIGHT 1), the last one to itself; its WEIGHTS "
            + "can't be changed.", TermBounds::ageing);
        Sentences.bound("Of a JOB besides: the PAY of its last STATE is 0, of all but the one ahead of that too: only "
            + "the one ahead of the last can have another one.", TermBounds::job);
        Sentences.bound("A MACHINE STANDS at a STATE (0 at first).", TermBounds::stands);
    }

    private static void ways() {
        Sentences.bound("A WAY is a set of STATES (bits); begun at a STATE s: the MACHINE is worked at s, whether s is "
            + "in the set or not, and then as long as it comes to STATES of the set.", TermBounds::way);
        Sentences.bound("Its PAYS, counted by THE SHARE (the first one whole, the next one times p by q, ..), have a "
            + "mean, so have its STEPS (each counted likewise). The VALUE of a WAY from s: the mean of PAYS by that of "
            + "STEPS, a fraction in lowest terms (lower number above 0).", TermBounds::value);
        Sentences.bound("THE WORTH of s: the greatest VALUE from s of all WAYS.", TermBounds::worth);
        Sentences.bound("THE ORDER of a MACHINE's STATES: by WORTHS, the greatest first; of alike ones the least "
            + "first.", TermBounds::orderOfStates);
        Sentences.bound("A STATE STOPS for s, if its WORTH is less than that of s.", TermBounds::stops);
    }

    private static void interfaceLines() {
        Sentences.plain("Ahead of the calls `share`, `sheet`, `tear`, `lay`, `get`, `copy` the interface says: ---- 1 "
            + "the share, sheets.");
        Sentences.plain("Ahead of the calls `machine`, `is`, `told`, `pay`, `chance`, `fill`, `ask`, `stand` the "
            + "interface says: ---- 2 machines.");
        Sentences.plain("Ahead of the calls `worth`, `way`, `upper`, `lower`, `order`, `goes`, `even`, `better`, "
            + "`mean`, `row`, `least`, `compare` the interface says: ---- worths.");
        Sentences.plain("Ahead of the calls `seed`, `best`, `work`, `run`, `step`, `worked`, `paid` the interface "
            + "says: ---- 3 the play.");
        Sentences.plain("Ahead of the calls `fail`, `asked`, `count`, `finding`, `findings`, `digest` the interface "
            + "says: ---- what is told.");
    }

    private static void order() {
        Check.due("BAD", BAD, -1);
        Check.due("FULL", FULL, -2);
        Check.due("STATE", STATE, -4);
        Check.due("FINDING", FINDING, -3);
        Check.refused("BAD ahead of FULL: sheet", Worlds::full, x -> x.sheet(4, 1), BAD);
        Check.refused("BAD ahead of FULL: machine", Worlds::full, x -> x.machine(4, 1), BAD);
        Check.refused("BAD ahead of STATE: pay", Worlds::mixed, x -> x.pay(3, 0, 51), BAD);
        Check.refused("BAD ahead of STATE: run", Worlds::empty, x -> x.run(-1), -1000000);
        Check.refused("BAD ahead of FINDING: lay", Worlds::mixed, x -> x.lay(5, -1, 0), BAD);
        Check.refused("BAD ahead of FINDING: even", Worlds::mixed, x -> x.even(0, -1, 1000001, 0), BAD);
        Check.refused("FULL ahead of FINDING: sheet", Worlds::full, x -> x.sheet(0, -1), FULL);
        Check.refused("FULL ahead of FINDING: machine", Worlds::full, x -> x.machine(0, -1), FULL);
        Check.refused("a call says so otherwise: STATE", Worlds::mixed, x -> x.pay(3, 0, 0), STATE);
        Check.finds("a call says so otherwise: pay", Worlds::mixed, x -> x.pay(3, 3, 0), BEYOND);
        Check.finds("a call says so otherwise: ask", Worlds::mixed, x -> x.ask(0, 3, 9), BEYOND);
        Check.finds("a call says so otherwise: machine", Worlds::mixed, x -> x.machine(1, -1), SIZE);
    }

    private static void none() {
        Check.due("NONE", NONE, -9);
        Check.refused("no machine for the play", Worlds::empty, x -> x.best(), NONE);
        Check.refused("no step", Worlds::empty, x -> x.step(0), NONE);
        Check.refused("no place of the order", Worlds::mixed, x -> x.order(0, 3), NONE);
    }

    private static void refused() {
        for (int machine : Worlds.noMachine()) {
            Check.refused("pay of " + machine, Worlds::mixed, x -> x.pay(machine, 0, 9), BAD);
            Check.refused("stand of " + machine, Worlds::mixed, x -> x.stand(machine, 1), BAD);
            Check.refused("work of " + machine, Worlds::mixed, x -> x.work(machine), BAD);
            Check.refused("worth of " + machine, Worlds::mixed, x -> x.worth(machine, 0), BAD);
        }
        Check.refused("share", Worlds::mixed, x -> x.share(1, 9), BAD);
        Check.refused("seed", Worlds::mixed, x -> x.seed(-1), BAD);
        Check.refused("run", Worlds::mixed, x -> x.run(501), -1000000);
        Check.refused("run without a machine", Worlds::empty, x -> x.run(500), -1000004);
        Check.refused("chance", Worlds::mixed, x -> x.chance(0, 0, 0, 8), STATE);
        Check.refused("fill", Worlds::mixed, x -> x.fill(2, 3, 0), STATE);
        Check.refused("a full row of machines", Worlds::full, x -> x.machine(0, 5), FULL);
        Check.refused("a full row of sheets", Worlds::full, x -> x.sheet(0, 24), FULL);
        Check.finds("tear", Worlds::mixed, x -> x.tear(2), NOTHING);
        Check.finds("stand", Worlds::mixed, x -> x.stand(0, 3), BEYOND);
        Check.finds("copy", Worlds::mixed, x -> x.copy(0, 0, 1, 0, 1), UNLIKE);
        Check.finds("even", Worlds::mixed, x -> x.even(0, 0, 1, 0), NOUGHT);
        Check.finds("machine", Worlds::mixed, x -> x.machine(0, -1), SIZE);
        Check.finds("fail", Worlds::mixed, x -> x.fail(0, 0), THROWN);
    }

    private static void findings() {
        for (int f = NOTHING; f <= THROWN; f++) {
            TinkerTrials x = Worlds.mixed();
            int before = x.findings(f);
            Check.due("what finds " + f, ToldBounds.find(x, f), FINDING);
            Check.due("finding()", x.finding(), f);
            Check.due("findings(" + f + ")", x.findings(f), before + 1);
        }
        Check.refused("no finding 0", Worlds::mixed, x -> x.findings(0), BAD);
        Check.refused("no finding 7", Worlds::mixed, x -> x.findings(7), BAD);
    }

    private static void share() {
        TinkerTrials first = Worlds.one(2, 2);
        Check.due("p at first", first.count(2), 1);
        Check.due("q at first", first.count(3), 2);
        for (int p = -1; p <= 9; p++) {
            for (int q = -1; q <= 10; q++) {
                boolean fits = 1 <= p && p < q && q <= 8;
                TinkerTrials x = new TinkerTrials();
                x.machine(2, 3);
                x.pay(0, 1, 1);
                Check.due("share " + p + " by " + q, x.share(p, q), fits ? 1 : BAD);
                int b = fits ? p : 1;
                int c = fits ? q : 2;
                // 0 and then 1 a step later, in 1 and p by q steps.
                int common = BigInteger.valueOf(b).gcd(BigInteger.valueOf(b + c)).intValue();
                Check.tells("a step later at " + b + " by " + c, x, x.way(0, 0, 2), b / common, (b + c) / common);
            }
        }
    }

    private static void sheets() {
        TinkerTrials x = new TinkerTrials();
        for (int k = 0; k < 12; k++) {
            Check.due("sheet", x.sheet(k % 4, k % 2 == 0 ? 24 : 0), k);
        }
        Check.due("a 13th sheet", x.sheet(0, 1), FULL);
        for (int k = 0; k < 12; k++) {
            Check.due("the first place of sheet " + k, x.get(k, 0), k % 2 == 0 ? 1 : FINDING);
            Check.due("the last place of sheet " + k, x.get(k, 23), k % 2 == 0 ? 1 : FINDING);
            Check.due("no place 24 of sheet " + k, x.get(k, 24), FINDING);
        }
        x.tear(0);
        Check.due("a missing one", x.get(0, 0), FINDING);
        Check.due("nothing is there", x.finding(), NOTHING);
        Check.due("a missing one is a sheet, too", x.count(1), 12);
        Check.due("no room by a missing one", x.sheet(0, 1), FULL);
        for (int kind = 0; kind <= 3; kind++) {
            holds(kind);
        }
        Check.refused("no kind 4", Worlds::mixed, y -> y.sheet(4, 1), BAD);
        Check.refused("no kind -1", Worlds::mixed, y -> y.sheet(-1, 1), BAD);
        Check.refused("no 25 places", Worlds::mixed, y -> y.sheet(0, 25), BAD);
        Check.finds("no -1 places", Worlds::mixed, y -> y.sheet(0, -1), SIZE);
    }

    /** The widest numbers of a kind are held as they are, the next ones come around. */
    private static void holds(int kind) {
        int bits = 8 << kind;
        long greatest = Long.MAX_VALUE >> 64 - bits;
        TinkerTrials x = new TinkerTrials();
        x.sheet(kind, 1);
        long[] laid = {greatest, -greatest - 1, greatest + 1, -greatest - 2};
        long[] due = {greatest, -greatest - 1, -greatest - 1, greatest};
        for (int k = 0; k < laid.length; k++) {
            x.lay(0, 0, laid[k]);
            x.get(0, 0);
            Check.due("kind " + kind + " of " + laid[k], x.asked(), due[k]);
        }
    }

    private static void machinesAndKinds() {
        TinkerTrials x = new TinkerTrials();
        for (int k = 0; k < 16; k++) {
            Check.due("machine", x.machine(k % 4, k % 4 == 1 ? 1 : 2), k);
        }
        Check.due("a 17th machine", x.machine(0, 1), FULL);
        int[] over = {0, 0, 0, 2};
        for (int kind = 0; kind <= 3; kind++) {
            for (int other = 0; other <= 3; other++) {
                boolean under = other == kind || other == over[kind] || other == 0;
                Check.due("a " + kind + " is a " + other, x.is(12 + kind, other), under ? 1 : 0);
            }
        }
        Check.due("no machine 16", x.is(16, 0), BAD);
        Check.due("no kind 4", x.is(0, 4), BAD);
        Check.refused("none of kind 4", Worlds::mixed, y -> y.machine(4, 2), BAD);
        Check.refused("none of kind -1", Worlds::mixed, y -> y.machine(-1, 2), BAD);
    }

    private static void states() {
        for (int kind = 0; kind <= 3; kind++) {
            for (int n = 0; n <= 7; n++) {
                TinkerTrials x = new TinkerTrials();
                boolean fits = Worlds.fits(kind, n);
                Check.due("kind " + kind + " with " + n, x.machine(kind, n), fits ? 0 : BAD);
                if (fits) {
                    Check.due("the first state", x.stand(0, 0), 0);
                    Check.due("the last state", x.stand(0, n - 1), 0);
                    Check.due("none behind it", x.stand(0, n), FINDING);
                    Check.due("none ahead of the first", x.stand(0, -1), FINDING);
                    Check.due("it stands at the last one", x.told(0, 2), n - 1);
                }
            }
        }
    }

    private static void pay() {
        for (int kind = 0; kind <= 3; kind++) {
            int n = kind == 1 ? 1 : 5;
            TinkerTrials x = new TinkerTrials();
            x.machine(kind, n);
            for (int s = 0; s < n; s++) {
                x.ask(0, s, 0);
                Check.due("kind " + kind + ", pay of " + s + " at first", x.asked(), 0);
            }
        }
        for (int v = -53; v <= 53; v++) {
            TinkerTrials x = Worlds.one(0, 1);
            boolean fits = -50 <= v && v <= 50;
            Check.due("pay " + v, x.pay(0, 0, v), fits ? 1007 : BAD);
            x.ask(0, 0, 0);
            Check.due("it is kept", x.asked(), fits ? v : 7);
        }
    }

    private static void weights() {
        for (int w = -2; w <= 13; w++) {
            for (int v = 0; v <= 10; v++) {
                TinkerTrials x = new TinkerTrials();
                x.machine(0, 2);
                x.pay(0, 1, 50);
                x.chance(0, 0, 1, 1);
                x.chance(0, 0, 0, 0);
                x.chance(0, 0, 0, v);
                int here = v <= 9 ? v : 0;
                boolean fits = 0 <= w && w <= 10;
                boolean sums = 1 <= here + w && here + w <= 10;
                Check.due("weight " + w + " beside " + here, x.chance(0, 0, 1, w), !fits ? BAD : !sums ? STATE : 1);
                int there = fits && sums ? w : 1;
                BigInteger sum = BigInteger.valueOf(here + there);
                BigInteger all = BigInteger.valueOf(50 * there);
                Check.tells("the chance", x, x.mean(0, 0), all.divide(all.gcd(sum)).intValue(),
                    sum.divide(all.gcd(sum)).intValue());
            }
        }
    }

    /** The weights of a machine's states, one behind the other. */
    private static void hasWeights(TinkerTrials x, int n, int... due) {
        for (int s = 0; s < n; s++) {
            for (int t = 0; t < n; t++) {
                x.ask(0, s, t + 1);
                Check.due("of " + n + ": weight of " + s + " for " + t, x.asked(), due[s] == t ? 1 : 0);
            }
        }
    }

    private static void weightsAtFirst() {
        for (int n = 1; n <= 5; n++) {
            TinkerTrials x = new TinkerTrials();
            x.machine(0, n);
            hasWeights(x, n, 0, 1, 2, 3, 4);
        }
        TinkerTrials x = new TinkerTrials();
        x.machine(1, 1);
        hasWeights(x, 1, 0);
    }

    private static void ageing() {
        int[][] leads = {{0}, {1, 1}, {1, 2, 2}, {1, 2, 3, 3}, {1, 2, 3, 4, 4}};
        for (int kind = 2; kind <= 3; kind++) {
            for (int n = kind - 1; n <= 5; n++) {
                TinkerTrials x = new TinkerTrials();
                x.machine(kind, n);
                for (int s = 0; s < n; s++) {
                    for (int t = 0; t < n; t++) {
                        Check.due("no change", x.chance(0, s, t, s == t ? 1 : 0), FINDING);
                        Check.due("unlike", x.finding(), UNLIKE);
                    }
                }
                hasWeights(x, n, leads[n - 1]);
                for (int k = 0; k < 7; k++) {
                    Check.due("work " + k + " of " + n, x.work(0), Math.min(k + 1, n - 1));
                }
            }
        }
    }

    private static void job() {
        for (int n = 2; n <= 5; n++) {
            for (int s = 0; s < n; s++) {
                TinkerTrials x = new TinkerTrials();
                x.machine(3, n);
                boolean can = s == n - 2;
                Check.due("JOB of " + n + ", pay of " + s, x.pay(0, s, 50), can ? 1000 : STATE);
                x.ask(0, s, 0);
                Check.due("it has", x.asked(), can ? 50 : 0);
                Check.due("and back", x.pay(0, s, 0), can ? 1050 : STATE);
            }
        }
    }

    private static void stands() {
        for (int kind = 0; kind <= 3; kind++) {
            for (int n = 1; n <= 5; n++) {
                if (Worlds.fits(kind, n)) {
                    Check.due("at first", Worlds.one(kind, n).told(0, 2), 0);
                    Check.due("it stood at first", Worlds.one(kind, n).stand(0, n - 1), 0);
                }
            }
        }
    }

    private static void way() {
        TinkerTrials x = Worlds.one(0, 2);
        x.pay(0, 0, 8);
        x.pay(0, 1, 2);
        x.chance(0, 0, 1, 1);
        x.chance(0, 1, 0, 1);
        Check.tells("the empty set", x, x.way(0, 0, 0), 8, 1);
        Check.tells("the state alone", x, x.way(0, 0, 1), 8, 1);
        // From 1 on: 8/3 in 4/3 steps; a quarter of these comes to 8 in 1 step.
        Check.tells("the other state, begun outside", x, x.way(0, 0, 2), 13, 2);
        Check.tells("both", x, x.way(0, 0, 3), 13, 2);
        Check.tells("begun inside, the other outside", x, x.way(0, 1, 2), 2, 1);
        Check.tells("begun at the other, outside", x, x.way(0, 1, 1), 7, 2);
        for (int set = 0; set < 32; set++) {
            x.way(0, 0, set);
            long upper = x.upper();
            long lower = x.lower();
            Check.tells("with or without s, set " + set, x, x.way(0, 0, set ^ 1), upper, lower);
        }
    }

    private static void value() {
        TinkerTrials x = Worlds.one(2, 3);
        x.pay(0, 0, 8);
        x.pay(0, 1, 4);
        x.pay(0, 2, -50);
        Check.tells("the first one whole", x, x.way(0, 0, 0), 8, 1);
        // 8 + 4/2 by 1 + 1/2.
        Check.tells("the next one by the share", x, x.way(0, 0, 2), 20, 3);
        // 8 + 4/2 - 50/4 - 50/8 .. by 1 + 1/2 + 1/4 ..
        Check.tells("the last one for ever", x, x.way(0, 0, 6), -15, 2);
        x.share(2, 4);
        Check.tells("lowest terms", x, x.way(0, 0, 2), 20, 3);
        x.pay(0, 0, -2);
        Check.tells("nought in lowest terms", x, x.way(0, 0, 2), 0, 1);
        x.pay(0, 0, -8);
        Check.tells("below 0 above", x, x.way(0, 0, 2), -4, 1);
        x.pay(0, 0, -50);
        x.pay(0, 1, -49);
        Check.tells("the lower number above 0", x, x.way(0, 0, 2), -149, 3);
    }

    private static void worth() {
        for (int n = 1; n <= 5; n++) {
            TinkerTrials x = Worlds.one(0, n);
            for (int s = 0; s < n; s++) {
                x.chance(0, s, (s + 1) % n, 3);
                x.chance(0, s, (s + 2) % n, 2);
            }
            for (int s = 0; s < n; s++) {
                x.worth(0, s);
                long upper = x.upper();
                long lower = x.lower();
                boolean reached = false;
                for (int set = 0; set < 32; set++) {
                    x.way(0, s, set);
                    int sign = Long.compare(x.upper() * lower, upper * x.lower());
                    Check.due("of " + n + ": way " + set + " above the worth of " + s, Math.max(sign, 0), 0);
                    reached = reached || sign == 0;
                }
                Check.due("a way has it", reached ? 1 : 0, 1);
            }
        }
    }

    private static void orderOfStates() {
        int[][] pays = {{0, 0, 0, 0, 0}, {5, 4, 3, 2, 1}, {1, 2, 3, 4, 5}, {-50, 50, -50, 50, -50}, {3, 3, 7, 3, 7}};
        int[][] due = {{0, 1, 2, 3, 4}, {0, 1, 2, 3, 4}, {4, 3, 2, 1, 0}, {1, 3, 0, 2, 4}, {2, 4, 0, 1, 3}};
        for (int k = 0; k < pays.length; k++) {
            TinkerTrials x = new TinkerTrials();
            x.machine(0, 5);
            for (int s = 0; s < 5; s++) {
                x.pay(0, s, pays[k][s]);
            }
            for (int i = 0; i < 5; i++) {
                Check.due("row " + k + ", place " + i, x.order(0, i), due[k][i]);
            }
        }
    }

    private static void stops() {
        TinkerTrials x = new TinkerTrials();
        x.machine(0, 3);
        Check.due("alike ones stop not", x.goes(0, 0), 7);
        x.pay(0, 1, 1);
        Check.due("one less stops", x.goes(0, 1), 2);
        Check.due("one more and one alike stop not", x.goes(0, 0), 7);
        x.pay(0, 2, -1);
        Check.due("a least one stops", x.goes(0, 0), 3);
        Check.due("for the least one none stops", x.goes(0, 2), 7);
    }

    private static void play() {
        TinkerTrials x = new TinkerTrials();
        Check.due("none", x.best(), NONE);
        for (int k = 0; k < 16; k++) {
            x.machine(1, 1);
            Check.due("the least of " + (k + 1) + " alike ones", x.best(), 0);
        }
        x.pay(15, 0, 1);
        Check.due("the last one", x.best(), 15);
        x.pay(7, 0, 1);
        Check.due("the least of two", x.best(), 7);
        Check.due("it is worked", x.run(3), 3);
        Check.due("and no other one", x.worked(7), 3);
        for (int k = 0; k < 16; k++) {
            x.pay(k, 0, -50);
        }
        Check.due("the least of the least ones", x.best(), 0);
    }

    private static void paysAndGoes() {
        TinkerTrials x = new TinkerTrials();
        x.machine(2, 2);
        x.pay(0, 0, -50);
        x.pay(0, 1, 50);
        Check.due("it goes", x.work(0), 1);
        Check.due("it paid by the state where it stood", x.paid(), -50);
        Check.due("it stays at the last one", x.work(0), 1);
        Check.due("it paid by the state where it stood then", x.paid(), 0);
    }

    private static void seed() {
        BigInteger modulus = BigInteger.ONE.shiftLeft(31);
        int[] seeds = {0, 1, 2, 65535, 65536, 1103515245, 1073741824, MOST - 1, MOST};
        for (int seed : seeds) {
            TinkerTrials x = Worlds.one(1, 1);
            x.seed(seed);
            BigInteger due = BigInteger.valueOf(seed);
            for (int k = 0; k < 20; k++) {
                x.work(0);
                due = due.multiply(BigInteger.valueOf(1103515245)).add(BigInteger.valueOf(12345)).mod(modulus);
                Check.due("the seed from " + seed, x.count(4), due.intValue());
            }
        }
    }

    /** The first and the last draw of each state, for sums 1 and 10 and between. */
    private static void draw() {
        int[][] rows = {{1, 0, 0, 0, 0}, {0, 0, 0, 0, 1}, {10, 0, 0, 0, 0}, {0, 0, 10, 0, 0}, {2, 2, 2, 2, 2},
            {1, 0, 8, 0, 1}, {0, 3, 0, 4, 0}, {0, 0, 1, 1, 0}, {9, 1, 0, 0, 0}, {1, 0, 0, 0, 9}};
        for (int[] row : rows) {
            int sum = 0;
            for (int w : row) {
                sum += w;
            }
            for (int draw = 0; draw < sum; draw++) {
                int due = 0;
                for (int above = row[0]; above <= draw; above += row[due]) {
                    due++;
                }
                TinkerTrials x = new TinkerTrials();
                x.machine(0, 5);
                Worlds.weigh(x, 0, 0, row);
                x.seed(seedOf(draw, sum));
                Check.due("draw " + draw + " of " + sum, x.work(0), due);
            }
        }
    }

    /** A seed that comes to a draw. */
    private static int seedOf(int draw, int sum) {
        int seed = 0;
        while ((seed * 1103515245L + 12345) % (1L << 31) / 65536 % sum != draw) {
            seed++;
        }
        return seed;
    }
}
