/** Promises 16 to 27, sentence by sentence. */
final class WorthBounds {
    private static final int BAD = TinkerTrials.BAD, NONE = TinkerTrials.NONE;
    private static final int BEYOND = 2, UNLIKE = 3, NOUGHT = 4;
    private static final int LEAST = Worlds.LEAST, MOST = Worlds.MOST;
    private static final int FEE = 1000000;

    private WorthBounds() {
    }

    static void all() {
        Sentences.promise(16, "int worth(int machine, int state)");
        Sentences.bound("THE WORTH of a STATE, told by upper(), lower(): 1.", WorthBounds::worths);
        Sentences.bound("BAD; BEYOND.", () -> badOrBeyond((x, a) -> x.worth(a[0], a[1])));
        Sentences.promise(17, "int way(int machine, int state, int set)");
        Sentences.bound("The VALUE of a WAY (0 .. 31; bits of STATES that there are not do not count) from a STATE, "
            + "told by upper(), lower(): 1.", WorthBounds::ways);
        Sentences.bound("BAD; BEYOND.", WorthBounds::noWays);
        Sentences.promise(18, "long upper()");
        Sentences.bound("The upper number of what worth(), way(), better(), mean(), least() that answered 1 told last; "
            + "0 before.", () -> toldLast(true));
        Sentences.promise(19, "long lower()");
        Sentences.bound("Its lower number; 1 before.", () -> toldLast(false));
        Sentences.promise(20, "int order(int machine, int i)");
        Sentences.bound("STATE i of THE ORDER; NONE: none such.", WorthBounds::orders);
        Sentences.bound("BAD.", WorthBounds::noOrders);
        Sentences.promise(21, "int goes(int machine, int state)");
        Sentences.bound("The set (bits) of STATES that do not STOP for a STATE.", WorthBounds::goings);
        Sentences.bound("BAD; BEYOND.", () -> badOrBeyond((x, a) -> x.goes(a[0], a[1])));
        fees();
        Sentences.promise(25, "int row(int machine, int state)");
        Sentences.bound("Of an AGEING: the least t (1 and more) for which the VALUE of the WAY of t STATES, a STATE "
            + "and those behind it, is greatest, begun at that STATE.", WorthBounds::rows);
        Sentences.bound("BAD; UNLIKE; BEYOND.", WorthBounds::noRows);
        Sentences.promise(26, "int least(int machine)");
        Sentences.bound("The least WORTH that a STATE of a MACHINE has, told by upper(), lower(): 1.",
            WorthBounds::leasts);
        Sentences.bound("BAD.", WorthBounds::noLeasts);
        Sentences.promise(27, "int compare(int machine, int state, int other, int at)");
        Sentences.bound("Two MACHINES' STATES: 1 if THE WORTH of the first is greater, 0 alike, 2 less.",
            WorthBounds::compares);
        Sentences.bound("BAD: MACHINES; BEYOND: either.", WorthBounds::noCompares);
    }

    private static void fees() {
        Sentences.promise(22, "int even(int machine, int state, int a, int b)");
        Sentences.bound("Whether THE WORTH of a STATE is above a fee (1), the fee itself (0), below it (2); the fee is "
            + "a by b.", WorthBounds::evens);
        Sentences.bound("BAD: MACHINE, a not -1000000 .. 1000000, b above 1000000 or below 0; NOUGHT: b is 0; BEYOND "
            + "(ahead of NOUGHT).", WorthBounds::noEvens);
        Sentences.promise(23, "int better(int machine, int state)");
        Sentences.bound("How much THE WORTH of a STATE is above its PAY, told by upper(), lower(): 1.",
            WorthBounds::betters);
        Sentences.bound("BAD; BEYOND.", () -> badOrBeyond((x, a) -> x.better(a[0], a[1])));
        Sentences.promise(24, "int mean(int machine, int state)");
        Sentences.bound("The mean PAY of the next step from a STATE on, the MACHINE being worked there twice (the "
            + "second one alone, not counted less), told by upper(), lower(): 1.", WorthBounds::means);
        Sentences.bound("BAD; BEYOND.", () -> badOrBeyond((x, a) -> x.mean(a[0], a[1])));
    }

    /** No machine ahead of no state; the states of machines of every size. */
    private static void badOrBeyond(Refusals.Call call) {
        Refusals.hold(Worlds::mixed, call, Refusals.order(BAD, BEYOND),
            Refusals.any(Refusals.fit(0, 3), Refusals.wrong(BAD, Worlds.noMachine())),
            Refusals.any(Refusals.fit(0, 2), Refusals.wrong(BEYOND, -1, 4, 5, MOST, LEAST)));
        Refusals.hold(Worlds::empty, call, Refusals.order(BAD), Refusals.wrong(BAD, 0, -1), Refusals.fit(0));
        for (int kind = 0; kind <= 3; kind++) {
            for (int n = 1; n <= 5; n++) {
                if (Worlds.fits(kind, n)) {
                    int k = kind;
                    int size = n;
                    Refusals.hold(() -> Worlds.one(k, size), call, Refusals.order(BAD, BEYOND),
                        Refusals.any(Refusals.fit(0), Refusals.wrong(BAD, -1, 1)),
                        Refusals.any(Refusals.fit(0, n - 1), Refusals.wrong(BEYOND, -1, n)));
                }
            }
        }
    }

    /** A MACHINE of which every state stays and has its own pay. */
    private static TinkerTrials staying(int... pays) {
        TinkerTrials x = new TinkerTrials();
        x.machine(0, pays.length);
        for (int s = 0; s < pays.length; s++) {
            x.pay(0, s, pays[s]);
        }
        return x;
    }

    /** The longest numbers: 7 by 8, weights that come to 10, the widest pays. */
    private static TinkerTrials longest() {
        int[][] weights = {{0, 3, 3, 3, 1}, {3, 0, 1, 3, 3}, {3, 3, 0, 1, 3}, {1, 3, 3, 0, 3}, {3, 1, 3, 3, 0}};
        TinkerTrials x = new TinkerTrials();
        x.share(7, 8);
        x.machine(0, 5);
        for (int s = 0; s < 5; s++) {
            x.pay(0, s, 50 - 25 * s);
            Worlds.weigh(x, 0, s, weights[s]);
        }
        return x;
    }

    private static void worths() {
        int[] pays = {-50, 0, 50};
        for (int pay : pays) {
            for (int n = 1; n <= 5; n++) {
                int[] row = new int[n];
                java.util.Arrays.fill(row, pay);
                TinkerTrials x = staying(row);
                Check.tells("all " + pay + ", the first of " + n, x, x.worth(0, 0), pay, 1);
                Check.tells("all " + pay + ", the last of " + n, x, x.worth(0, n - 1), pay, 1);
            }
        }
        TinkerTrials x = Worlds.ageing(1, 8, -50, 50);
        Check.tells("least of all, then greatest, at 1 by 8", x, x.worth(0, 0), -75, 2);
    }

    private static void ways() {
        for (int n = 1; n <= 5; n++) {
            TinkerTrials x = Worlds.one(0, n);
            for (int s = 0; s < n; s++) {
                x.chance(0, s, (s + 1) % n, 2);
            }
            int all = (1 << n) - 1;
            for (int set = 0; set <= 31; set++) {
                Check.due("set " + set + " of " + n, x.way(0, n - 1, set), 1);
                long upper = x.upper();
                long lower = x.lower();
                Check.tells("set " + set + " without bits of no states", x, x.way(0, n - 1, set & all), upper, lower);
            }
            Check.due("set 32", x.way(0, 0, 32), BAD);
            Check.due("set -1", x.way(0, 0, -1), BAD);
        }
        TinkerTrials x = Worlds.ageing(1, 2, 1, 2, 3, 4, 5);
        Check.tells("the empty set", x, x.way(0, 0, 0), 1, 1);
        // 1 + 2/2 + 3/4 + 4/8 + 5/8, by 2 steps.
        Check.tells("the set of all", x, x.way(0, 0, 31), 31, 16);
        Check.tells("the last state alone", x, x.way(0, 4, 16), 5, 1);
    }

    private static void noWays() {
        badOrBeyond((x, a) -> x.way(a[0], a[1], 31));
        Refusals.hold(Worlds::mixed, (x, a) -> x.way(a[0], a[1], a[2]), Refusals.order(BAD, BEYOND),
            Refusals.any(Refusals.fit(0), Refusals.wrong(BAD, Worlds.noMachine())),
            Refusals.any(Refusals.fit(0, 2), Refusals.wrong(BEYOND, -1, 3, 5, MOST, LEAST)),
            Refusals.any(Refusals.fit(0, 31), Refusals.wrong(BAD, -1, 32, MOST, LEAST)));
    }

    private static void is(String what, TinkerTrials x, boolean upper, long a, long b) {
        Check.due(what, upper ? x.upper() : x.lower(), upper ? a : b);
    }

    private static void toldLast(boolean upper) {
        TinkerTrials x = new TinkerTrials();
        is("before", x, upper, 0, 1);
        x.worth(0, 0);
        x.machine(2, 2);
        x.pay(0, 0, 4);
        x.pay(0, 1, -3);
        is("before, with a machine", x, upper, 0, 1);
        x.way(0, 0, 32);
        x.mean(0, 2);
        is("before, by what is refused", x, upper, 0, 1);
        // 4 - 3/2 - 3/4 .. by 2
        x.way(0, 0, 3);
        is("way", x, upper, 1, 2);
        x.worth(0, 0);
        is("worth", x, upper, 4, 1);
        x.mean(0, 0);
        is("mean", x, upper, -3, 1);
        x.better(0, 0);
        is("better", x, upper, 0, 1);
        x.least(0);
        is("least", x, upper, -3, 1);
        x.way(0, 0, 3);
        x.worth(0, 2);
        x.worth(1, 0);
        x.way(0, 0, -1);
        x.way(0, -1, 0);
        x.better(0, -1);
        x.mean(-1, 0);
        x.least(1);
        is("what is refused tells nothing", x, upper, 1, 2);
        x.order(0, 0);
        x.goes(0, 0);
        x.even(0, 0, 4, 1);
        x.row(0, 0);
        x.compare(0, 0, 0, 1);
        x.best();
        x.run(3);
        x.pay(0, 0, 9);
        x.share(7, 8);
        is("other calls tell nothing", x, upper, 1, 2);
    }

    private static void orders() {
        for (int n = 1; n <= 5; n++) {
            TinkerTrials x = Worlds.one(0, n);
            Check.due("the first of " + n, x.order(0, 0), 0);
            Check.due("the last of " + n, x.order(0, n - 1), n - 1);
            Check.due("behind the last of " + n, x.order(0, n), NONE);
            Check.due("ahead of the first of " + n, x.order(0, -1), NONE);
            Check.due("far behind", x.order(0, MOST), NONE);
            Check.due("far ahead", x.order(0, LEAST), NONE);
        }
        TinkerTrials x = staying(3, 5, 3, 5, 4);
        int[] due = {1, 3, 4, 0, 2};
        for (int i = 0; i < 5; i++) {
            Check.due("place " + i, x.order(0, i), due[i]);
        }
        Check.refused("none such changes nothing", Worlds::mixed, y -> y.order(0, 3), NONE);
    }

    private static void noOrders() {
        for (int machine : Worlds.noMachine()) {
            for (int i : new int[] {-1, 0, 3, 5, MOST, LEAST}) {
                Check.refused("machine " + machine + ", place " + i, Worlds::mixed, x -> x.order(machine, i), BAD);
            }
        }
        Check.refused("none at all", Worlds::empty, x -> x.order(0, 0), BAD);
    }

    private static void goings() {
        for (int n = 1; n <= 5; n++) {
            TinkerTrials x = staying(new int[n]);
            Check.due("all of " + n + " alike", x.goes(0, n - 1), (1 << n) - 1);
            x.pay(0, n - 1, 1);
            Check.due("for the only greatest of " + n, x.goes(0, n - 1), 1 << n - 1);
            Check.due("for the first of " + n, x.goes(0, 0), (1 << n) - 1);
            x.pay(0, n - 1, -1);
            Check.due("for the only least of " + n, x.goes(0, n - 1), (1 << n) - 1);
            Check.due("the least stops, of " + n, x.goes(0, 0), n == 1 ? 1 : (1 << n - 1) - 1);
        }
    }

    private static void evens() {
        TinkerTrials x = staying(50, -50, 0);
        Check.due("50 is the fee", x.even(0, 0, FEE, FEE / 50), 0);
        Check.due("50 is below it", x.even(0, 0, FEE, FEE / 50 - 1), 2);
        Check.due("50 is above it", x.even(0, 0, FEE, FEE / 50 + 1), 1);
        Check.due("-50 is the fee", x.even(0, 1, -FEE, FEE / 50), 0);
        Check.due("-50 is above it", x.even(0, 1, -FEE, FEE / 50 - 1), 1);
        Check.due("-50 is below it", x.even(0, 1, -FEE, FEE / 50 + 1), 2);
        Check.due("0 is the fee", x.even(0, 2, 0, FEE), 0);
        Check.due("0 is the fee, by 1", x.even(0, 2, 0, 1), 0);
        Check.due("0 is below it", x.even(0, 2, 1, FEE), 2);
        Check.due("0 is above it", x.even(0, 2, -1, FEE), 1);
        Check.due("the greatest fee", x.even(0, 0, FEE, 1), 2);
        Check.due("the least fee", x.even(0, 1, -FEE, 1), 1);
        Check.due("1", x.even(0, 2, FEE, FEE), 2);
        Check.due("-1", x.even(0, 2, -FEE, FEE), 1);
        // 7/8 by 1 + 7/8.
        x = Worlds.ageing(7, 8, 0, 1, 0);
        Check.due("7 by 15", x.even(0, 0, 466666, 999999), 1);
        Check.due("7 by 15, nearer", x.even(0, 0, 466667, 1000000), 2);
        Check.due("7 by 15 itself", x.even(0, 0, 466662, 999990), 0);
        x = longest();
        x.worth(0, 4);
        Check.due("its lower number is above all fees'", x.lower() > FEE ? 1 : 0, 1);
        int part = FEE / 50;
        int a = (int) Math.floorDiv(x.upper() * part, x.lower());
        Check.due("a long one, a little above", x.even(0, 4, a, part), 1);
        Check.due("a long one, a little below", x.even(0, 4, a + 1, part), 2);
    }

    private static void noEvens() {
        int[] fees = {-FEE - 1, FEE + 1, MOST, LEAST};
        int[] parts = {-1, FEE + 1, MOST, LEAST};
        Refusals.hold(Worlds::mixed, (x, a) -> x.even(a[0], a[1], a[2], a[3]), Refusals.order(BAD, BEYOND, NOUGHT),
            Refusals.any(Refusals.fit(0), Refusals.wrong(BAD, -1, 4, MOST)),
            Refusals.any(Refusals.fit(2), Refusals.wrong(BEYOND, -1, 3, LEAST)),
            Refusals.any(Refusals.fit(-FEE, 0, FEE), Refusals.wrong(BAD, fees)),
            Refusals.any(Refusals.fit(1, FEE), Refusals.wrong(NOUGHT, 0), Refusals.wrong(BAD, parts)));
        badOrBeyond((x, a) -> x.even(a[0], a[1], FEE, FEE));
        badOrBeyond((x, a) -> x.even(a[0], a[1], -FEE, 1));
    }

    private static void betters() {
        TinkerTrials x = staying(50, -50);
        Check.tells("the pay itself", x, x.better(0, 0), 0, 1);
        Check.tells("the least pay itself", x, x.better(0, 1), 0, 1);
        // -50 + 50/2 + 50/4 .. by 2: 0, and 50 above.
        x = Worlds.ageing(1, 2, -50, 50);
        Check.tells("above -50", x, x.better(0, 0), 50, 1);
        x = Worlds.ageing(7, 8, -50, 50);
        // -50 + 7/8 * 50 * 8 by 8 is 300/8.
        Check.tells("above -50, at 7 by 8", x, x.better(0, 0), 175, 2);
        x = Worlds.ageing(1, 8, -50, 50);
        Check.tells("above -50, at 1 by 8", x, x.better(0, 0), 25, 2);
    }

    private static void means() {
        for (int pay = -50; pay <= 50; pay += 50) {
            TinkerTrials x = staying(pay);
            Check.tells("a lone one", x, x.mean(0, 0), pay, 1);
        }
        TinkerTrials x = Worlds.ageing(1, 8, 1, 2, 50);
        Check.tells("the next one, whole", x, x.mean(0, 0), 2, 1);
        Check.tells("the last one", x, x.mean(0, 1), 50, 1);
        Check.tells("behind the last one, itself", x, x.mean(0, 2), 50, 1);
        x = staying(50, -50, 1);
        x.chance(0, 0, 1, 9);
        Check.tells("1 of 10 to the greatest", x, x.mean(0, 0), -40, 1);
        x.chance(0, 0, 1, 1);
        Check.tells("0 in lowest terms", x, x.mean(0, 0), 0, 1);
        x.chance(0, 0, 2, 8);
        Check.tells("8 of 10", x, x.mean(0, 0), 4, 5);
        Check.due("it stays where it stands", x.told(0, 2), 0);
        Check.due("and the seed as it was", x.count(4), 1);
    }

    private static void rows() {
        for (int n = 1; n <= 5; n++) {
            int[] more = new int[n];
            int[] less = new int[n];
            for (int s = 0; s < n; s++) {
                more[s] = s;
                less[s] = -s;
            }
            for (int s = 0; s < n; s++) {
                Check.due("ever more: all that are left", Worlds.ageing(1, 2, more).row(0, s), n - s);
                Check.due("ever less: 1", Worlds.ageing(1, 2, less).row(0, s), 1);
                Check.due("all alike: the least", Worlds.ageing(1, 2, new int[n]).row(0, s), 1);
            }
        }
        // 0; 1 by 3/2; 1 + 1/2 + 1/4 .. by 2.
        Check.due("alike pays behind a lesser one", Worlds.ageing(1, 2, 0, 2, 2).row(0, 0), 3);
        // 5 by 1; 5 + 5/2 by 3/2 is alike.
        Check.due("the least of alike ones", Worlds.ageing(1, 2, 5, 5, 4).row(0, 0), 1);
        // 0; 6/2 by 3/2 is 2; 6/2 + 2/4 by 7/4 is 2, too; the last one less.
        Check.due("the least of alike ones, later", Worlds.ageing(1, 2, 0, 6, 2, -9).row(0, 0), 2);
        for (int n = 2; n <= 5; n++) {
            TinkerTrials x = Worlds.one(3, n);
            Check.due("a JOB's pay", x.pay(0, n - 2, 50), 1000 + 7 - 3 * (n - 2));
            Check.due("a JOB: up to its pay", x.row(0, 0), n - 1);
            Check.due("a JOB: at its pay", x.row(0, n - 2), 1);
            Check.due("a JOB: behind it", x.row(0, n - 1), 1);
            x.pay(0, n - 2, -50);
            Check.due("a JOB that costs: past it", x.row(0, n - 2), 2);
        }
    }

    private static void noRows() {
        Refusals.hold(Worlds::mixed, (x, a) -> x.row(a[0], a[1]), Refusals.order(BAD, UNLIKE, BEYOND),
            Refusals.any(Refusals.fit(3), Refusals.wrong(UNLIKE, 0, 1), Refusals.wrong(BAD, Worlds.noMachine())),
            Refusals.any(Refusals.fit(0, 2), Refusals.wrong(BEYOND, -1, 3, 4, 5, MOST, LEAST)));
        Refusals.hold(Worlds::mixed, (x, a) -> x.row(2, a[0]), Refusals.order(BEYOND),
            Refusals.any(Refusals.fit(0, 3), Refusals.wrong(BEYOND, -1, 4)));
        Check.refused("none at all", Worlds::empty, x -> x.row(0, 0), BAD);
    }

    private static void leasts() {
        for (int n = 1; n <= 5; n++) {
            TinkerTrials x = staying(new int[n]);
            Check.tells("all alike, of " + n, x, x.least(0), 0, 1);
            x.pay(0, n - 1, -50);
            Check.tells("the last one, of " + n, x, x.least(0), -50, 1);
            x.pay(0, n - 1, 50);
            Check.tells("not the last one, of " + n, x, x.least(0), n == 1 ? 50 : 0, 1);
            x.pay(0, 0, -49);
            Check.tells("the first one, of " + n, x, x.least(0), -49, 1);
        }
    }

    private static void noLeasts() {
        Refusals.hold(Worlds::mixed, (x, a) -> x.least(a[0]), Refusals.order(BAD),
            Refusals.any(Refusals.fit(0, 3), Refusals.wrong(BAD, Worlds.noMachine())));
        Check.refused("none at all", Worlds::empty, x -> x.least(0), BAD);
    }

    private static void compares() {
        TinkerTrials x = new TinkerTrials();
        for (int k = 0; k < 16; k++) {
            x.machine(k % 2 == 0 ? 1 : 0, 1);
            x.pay(k, 0, k == 15 ? 50 : k == 0 ? -50 : k / 2);
        }
        Check.due("greatest and least", x.compare(15, 0, 0, 0), 1);
        Check.due("least and greatest", x.compare(0, 0, 15, 0), 2);
        Check.due("alike ones", x.compare(4, 0, 5, 0), 0);
        Check.due("next ones", x.compare(5, 0, 6, 0), 2);
        Check.due("itself", x.compare(15, 0, 15, 0), 0);
        x = longest();
        for (int s = 0; s < 5; s++) {
            for (int t = 0; t < 5; t++) {
                int sign = Integer.compare(t, s);
                Check.due("long ones " + s + " and " + t, x.compare(0, s, 0, t), sign < 0 ? 2 : sign);
            }
        }
    }

    private static void noCompares() {
        Refusals.hold(Worlds::mixed, (x, a) -> x.compare(a[0], a[1], a[2], a[3]), Refusals.order(BAD, BEYOND),
            Refusals.any(Refusals.fit(0, 3), Refusals.wrong(BAD, -1, 4, MOST, LEAST)),
            Refusals.any(Refusals.fit(0, 2), Refusals.wrong(BEYOND, -1, 3, MOST, LEAST)),
            Refusals.any(Refusals.fit(0, 3), Refusals.wrong(BAD, -1, 4, MOST, LEAST)),
            Refusals.any(Refusals.fit(0, 2), Refusals.wrong(BEYOND, -1, 3, MOST, LEAST)));
        Check.due("the last states of both", Worlds.mixed().compare(2, 3, 0, 2) >= 0 ? 1 : 0, 1);
        Check.finds("the second has none such", Worlds::mixed, x -> x.compare(2, 3, 0, 3), BEYOND);
        Check.finds("the first has none such", Worlds::mixed, x -> x.compare(0, 3, 2, 3), BEYOND);
        Check.finds("a STEADY's second state", Worlds::mixed, x -> x.compare(1, 0, 1, 1), BEYOND);
    }
}
