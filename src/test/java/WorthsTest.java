/** Promises 16 to 27: the worths, by numbers reckoned by hand. */
public final class WorthsTest {
    private static final int BAD = TinkerTrials.BAD, NONE = TinkerTrials.NONE;
    private static final int BEYOND = 2, UNLIKE = 3, NOUGHT = 4;
    private static final int LEAST = Integer.MIN_VALUE, MOST = Integer.MAX_VALUE;
    private static final int[] NO_MACHINE = {-1, 4, 16, MOST, LEAST};
    private static final int[] NO_STATE = {-1, 3, 5, MOST, LEAST};

    private interface Asking {
        int of(TinkerTrials x, int machine, int state);
    }

    private WorthsTest() {
    }

    public static void main(String[] args) {
        worths();
        ways();
        lastTold();
        orders();
        goings();
        evens();
        refusedEvens();
        betters();
        means();
        rows();
        refusedRows();
        leasts();
        compares();
        refusedCompares();
        refusedOfState("16 worth", (x, m, s) -> x.worth(m, s));
        refusedOfState("17 way", (x, m, s) -> x.way(m, s, 3));
        refusedOfState("21 goes", (x, m, s) -> x.goes(m, s));
        refusedOfState("23 better", (x, m, s) -> x.better(m, s));
        refusedOfState("24 mean", (x, m, s) -> x.mean(m, s));
        Check.end("WorthsTest");
    }

    /** BAD without the machine, also ahead of BEYOND; BEYOND without the state. */
    private static void refusedOfState(String what, Asking call) {
        for (int machine : NO_MACHINE) {
            Check.refused(what + ", machine " + machine, Worlds::mixed, x -> call.of(x, machine, 0), BAD);
            Check.refused(what + ", machine " + machine + ", state 9", Worlds::mixed, x -> call.of(x, machine, 9), BAD);
        }
        Check.refused(what + ", none", Worlds::empty, x -> call.of(x, 0, 0), BAD);
        for (int state : NO_STATE) {
            Check.finds(what + ", state " + state, Worlds::mixed, x -> call.of(x, 0, state), BEYOND);
        }
    }

    /** THE SHARE 1 by 2; 0 pays 1 and goes to 0, 1 (9) or 2 (-4) by 1, 1, 2; 1 goes to 0; 2 goes to 1 and 2 by 3, 1. */
    private static TinkerTrials three() {
        TinkerTrials x = new TinkerTrials();
        x.machine(0, 3);
        x.pay(0, 0, 1);
        x.pay(0, 1, 9);
        x.pay(0, 2, -4);
        x.chance(0, 0, 1, 1);
        x.chance(0, 0, 2, 2);
        x.chance(0, 1, 0, 1);
        x.chance(0, 1, 1, 0);
        x.chance(0, 2, 1, 3);
        return x;
    }

    /** Every state pays alike and stays. */
    private static TinkerTrials alike(int n, int pay) {
        TinkerTrials x = new TinkerTrials();
        x.machine(0, n);
        for (int s = 0; s < n; s++) {
            x.pay(0, s, pay);
        }
        return x;
    }

    private static void worths() {
        TinkerTrials x = three();
        Check.tells("16 of 0", x, x.worth(0, 0), 17, 9);
        Check.tells("16 of 1", x, x.worth(0, 1), 9, 1);
        Check.tells("16 of 2", x, x.worth(0, 2), -7, 85);
        x.share(7, 8);
        Check.tells("16 of the greatest pay, at another share", x, x.worth(0, 1), 9, 1);
        // 1 + 7/8 * 9/4 by 1 + 7/8 * 1/4
        Check.tells("16 of 0 at 7 by 8", x, x.worth(0, 0), 95, 39);
        x = alike(5, 0);
        Check.tells("16 all 0", x, x.worth(0, 3), 0, 1);
        x = alike(1, -50);
        Check.tells("16 a lone one", x, x.worth(0, 0), -50, 1);
    }

    private static void ways() {
        TinkerTrials x = three();
        Check.tells("17 none", x, x.way(0, 0, 0), 1, 1);
        Check.tells("17 itself alone", x, x.way(0, 0, 1), 1, 1);
        Check.tells("17 1", x, x.way(0, 0, 2), 17, 9);
        Check.tells("17 0 and 1", x, x.way(0, 0, 3), 17, 9);
        Check.tells("17 all", x, x.way(0, 0, 7), 109, 85);
        Check.tells("17 bits of no states", x, x.way(0, 0, 2 | 8 | 16), 17, 9);
        Check.tells("17 only bits of no states", x, x.way(0, 0, 24), 1, 1);
        // 2 leads to itself by 1 of 4: -4 in whatever number by as many steps.
        Check.tells("17 itself, to which it leads", x, x.way(0, 2, 4), -4, 1);
        Check.refused("17 set 32", Worlds::mixed, y -> y.way(0, 0, 32), BAD);
        Check.refused("17 set -1", Worlds::mixed, y -> y.way(0, 0, -1), BAD);
        Check.refused("17 set 32 ahead of BEYOND", Worlds::mixed, y -> y.way(0, 9, 32), BAD);
        Check.refused("17 set of all", Worlds::mixed, y -> y.way(0, 0, MOST), BAD);
    }

    private static void lastTold() {
        TinkerTrials x = three();
        Check.told("18 before any", x, 0, 1);
        x.worth(0, 0);
        Check.told("18 worth", x, 17, 9);
        x.way(0, 0, 7);
        Check.told("18 way", x, 109, 85);
        x.better(0, 2);
        Check.told("18 better", x, 333, 85);
        x.mean(0, 0);
        Check.told("18 mean", x, 1, 2);
        x.least(0);
        Check.told("18 least", x, -7, 85);
        x.order(0, 0);
        x.goes(0, 0);
        x.even(0, 1, 9, 1);
        x.compare(0, 0, 0, 1);
        x.best();
        x.run(3);
        x.worth(0, 3);
        x.way(0, 0, 32);
        x.share(1, 8);
        x.pay(0, 2, 50);
        Check.told("18 nothing else", x, -7, 85);
    }

    private static void orders() {
        TinkerTrials x = three();
        int[] due = {1, 0, 2};
        for (int i = 0; i < 3; i++) {
            Check.due("20 place " + i, x.order(0, i), due[i]);
        }
        Check.due("20 behind the last", x.order(0, 3), NONE);
        Check.due("20 ahead of the first", x.order(0, -1), NONE);
        Check.due("20 far behind", x.order(0, MOST), NONE);
        Check.due("20 far ahead", x.order(0, LEAST), NONE);
        x = alike(5, 4);
        for (int i = 0; i < 5; i++) {
            Check.due("20 alike ones, place " + i, x.order(0, i), i);
        }
        x.pay(0, 1, 3);
        x.pay(0, 4, 5);
        int[] mixed = {4, 0, 2, 3, 1};
        for (int i = 0; i < 5; i++) {
            Check.due("20 some alike, place " + i, x.order(0, i), mixed[i]);
        }
        for (int machine : NO_MACHINE) {
            Check.refused("20 no machine " + machine, Worlds::mixed, y -> y.order(machine, 0), BAD);
            Check.refused("20 no machine " + machine + ", no place", Worlds::mixed, y -> y.order(machine, 9), BAD);
        }
        Check.refused("20 none such", Worlds::mixed, y -> y.order(1, 1), NONE);
    }

    private static void goings() {
        TinkerTrials x = three();
        Check.due("21 for 0", x.goes(0, 0), 3);
        Check.due("21 for 1", x.goes(0, 1), 2);
        Check.due("21 for 2", x.goes(0, 2), 7);
        x = alike(5, 4);
        Check.due("21 alike ones do not stop", x.goes(0, 3), 31);
        x.pay(0, 1, 3);
        Check.due("21 a lesser one stops", x.goes(0, 3), 29);
    }

    private static void evens() {
        TinkerTrials x = three();
        Check.due("22 above", x.even(0, 0, 16, 9), 1);
        Check.due("22 the fee", x.even(0, 0, 17, 9), 0);
        Check.due("22 below", x.even(0, 0, 18, 9), 2);
        Check.due("22 the fee, not in lowest terms", x.even(0, 0, 170000, 90000), 0);
        Check.due("22 a little above", x.even(0, 0, 999999, 529412), 1);
        Check.due("22 a little below", x.even(0, 0, 1000000, 529411), 2);
        Check.due("22 below 0, the fee", x.even(0, 2, -7, 85), 0);
        Check.due("22 below 0, above", x.even(0, 2, -8, 85), 1);
        Check.due("22 below 0, below", x.even(0, 2, -6, 85), 2);
        Check.due("22 a fee of 0", x.even(0, 2, 0, 1), 2);
        Check.due("22 the greatest fee", x.even(0, 1, 1000000, 1), 2);
        Check.due("22 the least fee", x.even(0, 2, -1000000, 1), 1);
        Check.due("22 the least part", x.even(0, 2, -1, 1000000), 2);
    }

    private static void refusedEvens() {
        for (int machine : NO_MACHINE) {
            Check.refused("22 no machine " + machine, Worlds::mixed, x -> x.even(machine, 0, 1, 1), BAD);
            Check.refused("22 no machine, nought", Worlds::mixed, x -> x.even(machine, 0, 1, 0), BAD);
        }
        int[][] wrong = {{1000001, 1}, {-1000001, 1}, {MOST, 1}, {LEAST, 1}, {0, -1}, {0, LEAST}, {0, 1000001},
            {0, MOST}, {1000001, 0}};
        for (int[] fee : wrong) {
            Check.refused("22 " + fee[0] + " by " + fee[1], Worlds::mixed, x -> x.even(0, 0, fee[0], fee[1]), BAD);
            Check.refused("22 " + fee[0] + " by " + fee[1] + " ahead of BEYOND", Worlds::mixed,
                x -> x.even(0, 9, fee[0], fee[1]), BAD);
        }
        for (int state : NO_STATE) {
            Check.finds("22 state " + state, Worlds::mixed, x -> x.even(0, state, 1, 1), BEYOND);
            Check.finds("22 state " + state + " ahead of NOUGHT", Worlds::mixed, x -> x.even(0, state, 1, 0), BEYOND);
        }
        Check.finds("22 by 0", Worlds::mixed, x -> x.even(0, 0, 1, 0), NOUGHT);
        Check.finds("22 0 by 0", Worlds::mixed, x -> x.even(0, 0, 0, 0), NOUGHT);
    }

    private static void betters() {
        TinkerTrials x = three();
        Check.tells("23 of 0", x, x.better(0, 0), 8, 9);
        Check.tells("23 of the greatest", x, x.better(0, 1), 0, 1);
        Check.tells("23 of a pay below 0", x, x.better(0, 2), 333, 85);
        x = new TinkerTrials();
        x.machine(2, 2);
        x.pay(0, 0, -50);
        x.pay(0, 1, 50);
        Check.tells("23 the widest", x, x.better(0, 0), 50, 1);
    }

    private static void means() {
        TinkerTrials x = three();
        Check.tells("24 of 0", x, x.mean(0, 0), 1, 2);
        Check.tells("24 of 1", x, x.mean(0, 1), 1, 1);
        Check.tells("24 of 2", x, x.mean(0, 2), 23, 4);
        x.share(7, 8);
        x.stand(0, 1);
        Check.tells("24 not counted less", x, x.mean(0, 0), 1, 2);
        x.pay(0, 1, -9);
        Check.tells("24 below 0", x, x.mean(0, 0), -4, 1);
        x.pay(0, 1, 7);
        Check.tells("24 of nothing", x, x.mean(0, 0), 0, 1);
        x.machine(2, 2);
        x.pay(1, 1, 6);
        Check.tells("24 of an AGEING", x, x.mean(1, 0), 6, 1);
        Check.tells("24 of its last one", x, x.mean(1, 1), 6, 1);
    }

    private static void rows() {
        TinkerTrials x = Worlds.ageing(2, 3, 2, 8, 8, 1);
        Check.due("25 from the first", x.row(0, 0), 3);
        Check.due("25 from the second: two are alike to one", x.row(0, 1), 1);
        Check.due("25 from the third", x.row(0, 2), 1);
        Check.due("25 from the last", x.row(0, 3), 1);
        Check.due("25 alike ones", Worlds.ageing(1, 2, 4, 4, 4, 4, 4).row(0, 0), 1);
        Check.due("25 ever more", Worlds.ageing(1, 2, 1, 2, 3, 4, 5).row(0, 0), 5);
        Check.due("25 ever more, from within", Worlds.ageing(1, 2, 1, 2, 3, 4, 5).row(0, 2), 3);
        Check.due("25 ever less", Worlds.ageing(1, 2, 5, 4, 3, 2, 1).row(0, 0), 1);
        // At 1 by 2: 0; 2/3 by 2 steps; 2/7 by 3 steps less; the last one for ever: 0 + 1 - 1 + 20/4 by 2.
        Check.due("25 a poor one between", Worlds.ageing(1, 2, 0, 2, -4, 20).row(0, 0), 4);
        Check.due("25 a poorer one between", Worlds.ageing(1, 2, 0, 2, -40, 20).row(0, 0), 2);
        Check.due("25 a lone one", Worlds.ageing(1, 2, -7).row(0, 0), 1);
        Check.due("25 a JOB", Worlds.mixed().row(3, 0), 2);
        Check.due("25 a JOB, the pay's state", Worlds.mixed().row(3, 1), 1);
        x = Worlds.ageing(1, 2, 1, 5);
        Check.due("25 ahead", x.row(0, 0), 2);
        x.pay(0, 1, 1);
        Check.due("25 after another pay", x.row(0, 0), 1);
        // 2 + b * 0 + b * b * 3 / (1 - b): above 2 by what is left if b is great enough.
        x = Worlds.ageing(1, 8, 2, 0, 3);
        Check.due("25 a small share", x.row(0, 0), 1);
        x.share(7, 8);
        Check.due("25 a great share", x.row(0, 0), 3);
    }

    private static void refusedRows() {
        for (int machine : NO_MACHINE) {
            Check.refused("25 no machine " + machine, Worlds::mixed, x -> x.row(machine, 0), BAD);
        }
        Check.finds("25 a MACHINE", Worlds::mixed, x -> x.row(0, 0), UNLIKE);
        Check.finds("25 a STEADY", Worlds::mixed, x -> x.row(1, 0), UNLIKE);
        Check.finds("25 UNLIKE ahead of BEYOND", Worlds::mixed, x -> x.row(0, 9), UNLIKE);
        int[] beyond = {-1, 4, 5, MOST, LEAST};
        for (int state : beyond) {
            Check.finds("25 state " + state, Worlds::mixed, x -> x.row(2, state), BEYOND);
        }
        Check.finds("25 a JOB's state 3", Worlds::mixed, x -> x.row(3, 3), BEYOND);
    }

    private static void leasts() {
        TinkerTrials x = three();
        Check.tells("26 of three", x, x.least(0), -7, 85);
        x = alike(5, 4);
        x.pay(0, 0, 3);
        Check.tells("26 the first", x, x.least(0), 3, 1);
        x.pay(0, 4, -3);
        Check.tells("26 the last", x, x.least(0), -3, 1);
        x = alike(1, 50);
        Check.tells("26 the only one", x, x.least(0), 50, 1);
        for (int machine : NO_MACHINE) {
            Check.refused("26 no machine " + machine, Worlds::mixed, y -> y.least(machine), BAD);
        }
    }

    private static void compares() {
        TinkerTrials x = three();
        x.machine(1, 1);
        x.pay(1, 0, 9);
        Check.due("27 greater", x.compare(0, 1, 0, 0), 1);
        Check.due("27 less", x.compare(0, 0, 0, 1), 2);
        Check.due("27 itself", x.compare(0, 2, 0, 2), 0);
        Check.due("27 alike, of another machine", x.compare(0, 1, 1, 0), 0);
        Check.due("27 less than another machine's", x.compare(0, 0, 1, 0), 2);
        Check.due("27 greater than another machine's", x.compare(1, 0, 0, 2), 1);
        x.machine(1, 1);
        Check.due("27 below 0 and 0", x.compare(0, 2, 2, 0), 2);
        x.pay(2, 0, -1);
        Check.due("27 both below 0", x.compare(0, 2, 2, 0), 1);
    }

    private static void refusedCompares() {
        for (int machine : NO_MACHINE) {
            Check.refused("27 no first " + machine, Worlds::mixed, x -> x.compare(machine, 0, 0, 0), BAD);
            Check.refused("27 no second " + machine, Worlds::mixed, x -> x.compare(0, 0, machine, 0), BAD);
            Check.refused("27 no second ahead of BEYOND", Worlds::mixed, x -> x.compare(0, 9, machine, 9), BAD);
        }
        for (int state : NO_STATE) {
            Check.finds("27 first state " + state, Worlds::mixed, x -> x.compare(0, state, 0, 0), BEYOND);
            Check.finds("27 second state " + state, Worlds::mixed, x -> x.compare(0, 0, 0, state), BEYOND);
        }
        Check.finds("27 a state of the other one alone", Worlds::mixed, x -> x.compare(1, 1, 0, 1), BEYOND);
        Check.finds("27 the other has none such", Worlds::mixed, x -> x.compare(0, 1, 1, 1), BEYOND);
    }
}
