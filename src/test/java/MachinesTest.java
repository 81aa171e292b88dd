/** Promises 8 to 15: the machines. */
public final class MachinesTest {
    private static final int BAD = TinkerTrials.BAD, FULL = TinkerTrials.FULL, STATE = TinkerTrials.STATE;
    private static final int NOTHING = 1, BEYOND = 2, UNLIKE = 3, SIZE = 5;
    private static final int LEAST = Integer.MIN_VALUE, MOST = Integer.MAX_VALUE;
    private static final int[] NO_MACHINE = {-1, 4, 16, MOST, LEAST};

    private MachinesTest() {
    }

    public static void main(String[] args) {
        machines();
        refusedMachines();
        weightsAtFirst();
        kinds();
        whatIsTold();
        pays();
        jobPays();
        refusedPays();
        chances();
        refusedChances();
        fills();
        refusedFills();
        asks();
        stands();
        Check.end("MachinesTest");
    }

    private static void machines() {
        for (int kind = -1; kind <= 4; kind++) {
            for (int n = 0; n <= 6; n++) {
                TinkerTrials x = new TinkerTrials();
                boolean fits = kind == 1 ? n == 1 : kind == 3 ? n >= 2 && n <= 5 : n >= 1 && n <= 5;
                boolean due = fits && kind >= 0 && kind <= 3;
                Check.due("8 kind " + kind + ", n " + n, x.machine(kind, n), due ? 0 : BAD);
                Check.due("8 machines", x.count(0), due ? 1 : 0);
                Check.due("8 how many states", x.told(0, 1), due ? n : BAD);
            }
        }
        TinkerTrials x = new TinkerTrials();
        for (int k = 0; k < 16; k++) {
            Check.due("8 number", x.machine(0, 1), k);
        }
        Check.due("8 a 17th", x.machine(0, 1), FULL);
        Check.due("8 16 of them", x.count(0), 16);
    }

    private static void refusedMachines() {
        Check.refused("8 kind -1", Worlds::mixed, x -> x.machine(-1, 2), BAD);
        Check.refused("8 kind 4", Worlds::mixed, x -> x.machine(4, 2), BAD);
        Check.refused("8 n 6", Worlds::mixed, x -> x.machine(0, 6), BAD);
        Check.refused("8 n above all", Worlds::mixed, x -> x.machine(2, MOST), BAD);
        Check.refused("8 STEADY 2", Worlds::mixed, x -> x.machine(1, 2), BAD);
        Check.refused("8 STEADY 0", Worlds::mixed, x -> x.machine(1, 0), BAD);
        Check.refused("8 JOB 1", Worlds::mixed, x -> x.machine(3, 1), BAD);
        Check.refused("8 n 0", Worlds::mixed, x -> x.machine(0, 0), BAD);
        Check.refused("8 kind ahead of SIZE", Worlds::mixed, x -> x.machine(9, -1), BAD);
        Check.refused("8 BAD ahead of FULL: kind", Worlds::full, x -> x.machine(4, 1), BAD);
        Check.refused("8 BAD ahead of FULL: n 6", Worlds::full, x -> x.machine(0, 6), BAD);
        Check.refused("8 BAD ahead of FULL: n 0", Worlds::full, x -> x.machine(0, 0), BAD);
        Check.refused("8 BAD ahead of FULL: STEADY", Worlds::full, x -> x.machine(1, 2), BAD);
        Check.refused("8 FULL", Worlds::full, x -> x.machine(0, 1), FULL);
        Check.refused("8 FULL ahead of SIZE", Worlds::full, x -> x.machine(0, -1), FULL);
        for (int kind = 0; kind <= 3; kind++) {
            int k = kind;
            Check.finds("8 SIZE, kind " + kind, Worlds::mixed, x -> x.machine(k, -1), SIZE);
            Check.finds("8 SIZE below all, kind " + kind, Worlds::mixed, x -> x.machine(k, LEAST), SIZE);
        }
    }

    private static void weightsAtFirst() {
        for (int kind = 0; kind <= 3; kind++) {
            int n = kind == 1 ? 1 : 5;
            TinkerTrials x = new TinkerTrials();
            x.machine(kind, n);
            for (int s = 0; s < n; s++) {
                x.ask(0, s, 0);
                Check.due("8 pay at first", x.asked(), 0);
                int leads = kind >= 2 && s < n - 1 ? s + 1 : s;
                for (int t = 0; t < n; t++) {
                    x.ask(0, s, t + 1);
                    Check.due("8 kind " + kind + ": weight of " + s + " for " + t, x.asked(), t == leads ? 1 : 0);
                }
            }
        }
    }

    private static void kinds() {
        int[][] under = {{1, 0, 0, 0}, {1, 1, 0, 0}, {1, 0, 1, 0}, {1, 0, 1, 1}};
        TinkerTrials x = Worlds.mixed();
        for (int k = 0; k < 4; k++) {
            for (int kind = 0; kind < 4; kind++) {
                Check.due("9 kind " + k + " under " + kind, x.is(k, kind), under[k][kind]);
            }
        }
        for (int machine : NO_MACHINE) {
            Check.refused("9 no machine " + machine, Worlds::mixed, y -> y.is(machine, 0), BAD);
        }
        Check.refused("9 kind -1", Worlds::mixed, y -> y.is(0, -1), BAD);
        Check.refused("9 kind 4", Worlds::mixed, y -> y.is(0, 4), BAD);
        Check.refused("9 none", Worlds::empty, y -> y.is(0, 0), BAD);
    }

    private static void whatIsTold() {
        TinkerTrials x = Worlds.mixed();
        int[] sizes = {3, 1, 4, 3};
        for (int k = 0; k < 4; k++) {
            Check.due("10 kind", x.told(k, 0), k);
            Check.due("10 states", x.told(k, 1), sizes[k]);
        }
        x.stand(3, 2);
        Check.due("10 stands", x.told(3, 2), 2);
        x.stand(3, 1);
        Check.due("10 stands", x.told(3, 2), 1);
        for (int machine : NO_MACHINE) {
            Check.refused("10 no machine " + machine, Worlds::mixed, y -> y.told(machine, 0), BAD);
        }
        Check.refused("10 what -1", Worlds::mixed, y -> y.told(0, -1), BAD);
        Check.refused("10 what 3", Worlds::mixed, y -> y.told(0, 3), BAD);
    }

    private static void pays() {
        TinkerTrials x = new TinkerTrials();
        x.machine(0, 2);
        Check.due("11 at first 0", x.pay(0, 1, -50), 1000);
        Check.due("11 it was -50", x.pay(0, 1, 50), 950);
        Check.due("11 it was 50", x.pay(0, 1, 3), 1050);
        Check.due("11 it was 3", x.pay(0, 1, 3), 1003);
        Check.due("11 the other state's", x.pay(0, 0, 1), 1000);
        Check.tells("11 worth", x, x.worth(0, 1), 3, 1);
        x.pay(0, 1, 4);
        Check.tells("11 worth reckoned again", x, x.worth(0, 1), 4, 1);
    }

    private static void jobPays() {
        for (int n = 2; n <= 5; n++) {
            TinkerTrials x = new TinkerTrials();
            x.machine(3, n);
            for (int s = 0; s < n; s++) {
                boolean pays = s == n - 2;
                Check.due("11 JOB of " + n + ", state " + s, x.pay(0, s, 7), pays ? 1000 : STATE);
                Check.due("11 JOB of " + n + ", 0 for state " + s, x.pay(0, s, 0), pays ? 1007 : STATE);
            }
        }
    }

    private static void refusedPays() {
        for (int machine : NO_MACHINE) {
            Check.refused("11 no machine " + machine, Worlds::mixed, x -> x.pay(machine, 0, 1), BAD);
        }
        int[] wrong = {-51, 51, MOST, LEAST};
        for (int v : wrong) {
            Check.refused("11 pay " + v, Worlds::mixed, x -> x.pay(0, 0, v), BAD);
            Check.refused("11 pay " + v + " ahead of BEYOND", Worlds::mixed, x -> x.pay(0, 9, v), BAD);
            Check.refused("11 pay " + v + " ahead of STATE", Worlds::mixed, x -> x.pay(3, 0, v), BAD);
        }
        int[] beyond = {-1, 3, 5, MOST, LEAST};
        for (int s : beyond) {
            Check.finds("11 state " + s, Worlds::mixed, x -> x.pay(0, s, 1), BEYOND);
            Check.finds("11 JOB: state " + s + " ahead of STATE", Worlds::mixed, x -> x.pay(3, s, 1), BEYOND);
        }
        Check.refused("11 JOB has none there", Worlds::mixed, x -> x.pay(3, 0, 1), STATE);
        Check.refused("11 JOB, the last one", Worlds::mixed, x -> x.pay(3, 2, 1), STATE);
        Check.refused("11 JOB, also for 0", Worlds::mixed, x -> x.pay(3, 2, 0), STATE);
    }

    private static void chances() {
        TinkerTrials x = new TinkerTrials();
        x.machine(0, 3);
        Check.due("12 it was 0", x.chance(0, 0, 1, 9), 0);
        Check.due("12 it was 9", x.chance(0, 0, 1, 8), 9);
        Check.due("12 it was 1", x.chance(0, 0, 0, 0), 1);
        Check.due("12 the sum is 10", x.chance(0, 0, 2, 2), 0);
        Check.due("12 the sum would be 11", x.chance(0, 0, 0, 1), STATE);
        Check.due("12 the same again", x.chance(0, 0, 2, 2), 2);
        Check.due("12 only 0 is left", x.chance(0, 1, 1, 0), STATE);
        Check.due("12 as much as there may be", x.chance(0, 1, 1, 10), 1);
        x.machine(1, 1);
        Check.due("12 a STEADY has a weight, too", x.chance(1, 0, 0, 10), 1);
        Check.due("12 a STEADY's can't be 0", x.chance(1, 0, 0, 0), STATE);
        x.ask(0, 0, 2);
        Check.due("12 weight of 0 for 1", x.asked(), 8);
        x.ask(0, 0, 3);
        Check.due("12 weight of 0 for 2", x.asked(), 2);
        x.pay(0, 1, 10);
        x.pay(0, 0, 1);
        Check.tells("12 worth", x, x.worth(0, 0), 5, 1);
        x.chance(0, 0, 1, 2);
        Check.tells("12 worth reckoned again", x, x.worth(0, 0), 4, 1);
    }

    private static void refusedChances() {
        for (int machine : NO_MACHINE) {
            Check.refused("12 no machine " + machine, Worlds::mixed, x -> x.chance(machine, 0, 0, 1), BAD);
        }
        int[] wrong = {-1, 11, MOST, LEAST};
        for (int w : wrong) {
            Check.refused("12 weight " + w, Worlds::mixed, x -> x.chance(0, 0, 0, w), BAD);
            Check.refused("12 weight " + w + " ahead of UNLIKE", Worlds::mixed, x -> x.chance(2, 9, 0, w), BAD);
        }
        Check.finds("12 an AGEING", Worlds::mixed, x -> x.chance(2, 0, 1, 1), UNLIKE);
        Check.finds("12 a JOB", Worlds::mixed, x -> x.chance(3, 0, 1, 1), UNLIKE);
        Check.finds("12 an AGEING ahead of BEYOND", Worlds::mixed, x -> x.chance(2, 9, 9, 1), UNLIKE);
        Check.finds("12 an AGEING ahead of STATE", Worlds::mixed, x -> x.chance(2, 0, 1, 0), UNLIKE);
        int[] beyond = {-1, 3, 5, MOST, LEAST};
        for (int s : beyond) {
            Check.finds("12 state " + s, Worlds::mixed, x -> x.chance(0, s, 0, 1), BEYOND);
            Check.finds("12 other state " + s, Worlds::mixed, x -> x.chance(0, 0, s, 1), BEYOND);
            Check.finds("12 state " + s + " ahead of STATE", Worlds::mixed, x -> x.chance(1, 0, s, 0), BEYOND);
        }
        Check.refused("12 the sum 0", Worlds::mixed, x -> x.chance(1, 0, 0, 0), STATE);
        Check.refused("12 the sum 11", Worlds::mixed, x -> x.chance(0, 0, 0, 8), STATE);
        Check.refused("12 the sum 13", Worlds::mixed, x -> x.chance(0, 0, 0, 10), STATE);
    }

    private static void payIs(String what, TinkerTrials x, int state, int pay) {
        x.ask(0, state, 0);
        Check.due(what + ": pay of " + state, x.asked(), pay);
    }

    private static void fills() {
        TinkerTrials x = Worlds.laid(0, 3, 99, -50, 0, 50, 99);
        x.worth(0, 0);
        Check.due("13 how many", x.fill(0, 0, 1), 3);
        payIs("13", x, 0, -50);
        payIs("13", x, 1, 0);
        payIs("13", x, 2, 50);
        Check.tells("13 worth reckoned again", x, x.worth(0, 0), -50, 1);
        x = Worlds.laid(3, 4, 0, 0, -9, 0);
        Check.due("13 a JOB", x.fill(0, 0, 0), 4);
        payIs("13 a JOB", x, 2, -9);
        x = Worlds.laid(1, 1, 1, 2);
        Check.due("13 the last place", x.fill(0, 0, 1), 1);
        payIs("13 the last place", x, 0, 2);
    }

    private static void refusedFills() {
        for (int number : NO_MACHINE) {
            Check.refused("13 no machine " + number, Worlds::mixed, x -> x.fill(number, 0, 0), BAD);
        }
        Check.refused("13 no sheet", Worlds::mixed, x -> x.fill(0, 5, 0), BAD);
        Check.refused("13 no sheet -1", Worlds::mixed, x -> x.fill(0, -1, 0), BAD);
        Check.finds("13 missing", Worlds::mixed, x -> x.fill(0, 2, 0), NOTHING);
        Check.finds("13 missing ahead of BEYOND", Worlds::mixed, x -> x.fill(0, 2, -1), NOTHING);
        int[] beyond = {-1, 4, 6, MOST, MOST - 2, LEAST};
        for (int i : beyond) {
            Check.finds("13 from " + i, Worlds::mixed, x -> x.fill(0, 0, i), BEYOND);
        }
        Check.finds("13 BEYOND ahead of STATE", Worlds::mixed, x -> x.fill(3, 0, 4), BEYOND);
        Check.finds("13 a sheet without places", Worlds::mixed, x -> x.fill(1, 4, 0), BEYOND);
        Check.refused("13 51", () -> Worlds.laid(0, 3, 1, 2, 51), x -> x.fill(0, 0, 0), STATE);
        Check.refused("13 -51", () -> Worlds.laid(0, 3, -51, 2, 1), x -> x.fill(0, 0, 0), STATE);
        Check.refused("13 0 but for what is cut off", () -> Worlds.laid(0, 1, 1L << 32), x -> x.fill(0, 0, 0), STATE);
        Check.refused("13 least of all", () -> Worlds.laid(2, 2, 0, Long.MIN_VALUE), x -> x.fill(0, 0, 0), STATE);
        Check.refused("13 a JOB: ahead", () -> Worlds.laid(3, 3, 1, 2, 0), x -> x.fill(0, 0, 0), STATE);
        Check.refused("13 a JOB: the last", () -> Worlds.laid(3, 3, 0, 2, 1), x -> x.fill(0, 0, 0), STATE);
        Check.refused("13 a JOB: 51", () -> Worlds.laid(3, 3, 0, 51, 0), x -> x.fill(0, 0, 0), STATE);
    }

    private static void asks() {
        TinkerTrials x = Worlds.mixed();
        int[] due = {1, 1, 1, 2};
        for (int what = 0; what <= 3; what++) {
            Check.due("14 ask " + what, x.ask(0, 0, what), 1);
            Check.due("14 asked " + what, x.asked(), due[what]);
        }
        x.ask(0, 2, 0);
        Check.due("14 a pay below 0", x.asked(), -4);
        x.ask(0, 2, 2);
        Check.due("14 weight of 2 for 1", x.asked(), 3);
        for (int machine : NO_MACHINE) {
            Check.refused("14 no machine " + machine, Worlds::mixed, y -> y.ask(machine, 0, 0), BAD);
        }
        int[] beyond = {-1, 3, 5, MOST, LEAST};
        for (int s : beyond) {
            Check.finds("14 state " + s, Worlds::mixed, y -> y.ask(0, s, 0), BEYOND);
            Check.finds("14 state " + s + " ahead of what", Worlds::mixed, y -> y.ask(0, s, 9), BEYOND);
        }
        int[] wrong = {-1, 4, 6, MOST, LEAST};
        for (int what : wrong) {
            Check.refused("14 what " + what, Worlds::mixed, y -> y.ask(0, 0, what), BAD);
        }
        Check.refused("14 no machine ahead of BEYOND", Worlds::mixed, y -> y.ask(4, 9, 9), BAD);
    }

    private static void stands() {
        TinkerTrials x = new TinkerTrials();
        x.machine(0, 5);
        Check.due("15 at first 0", x.stand(0, 4), 0);
        Check.due("15 it stood at 4", x.stand(0, 2), 4);
        Check.due("15 it stood at 2", x.stand(0, 2), 2);
        Check.due("15 told", x.told(0, 2), 2);
        for (int machine : NO_MACHINE) {
            Check.refused("15 no machine " + machine, Worlds::mixed, y -> y.stand(machine, 0), BAD);
        }
        int[] beyond = {-1, 3, 5, MOST, LEAST};
        for (int s : beyond) {
            Check.finds("15 state " + s, Worlds::mixed, y -> y.stand(0, s), BEYOND);
        }
    }
}
