/** Promises 8 to 15, sentence by sentence. */
final class MachineBounds {
    private static final int BAD = TinkerTrials.BAD, FULL = TinkerTrials.FULL, STATE = TinkerTrials.STATE;
    private static final int FINDING = TinkerTrials.FINDING;
    private static final int NOTHING = 1, BEYOND = 2, UNLIKE = 3, SIZE = 5;
    private static final int LEAST = Worlds.LEAST, MOST = Worlds.MOST;

    private MachineBounds() {
    }

    static void all() {
        Sentences.promise(8, "int machine(int kind, int n)");
        Sentences.bound("A MACHINE of a KIND with n STATES: its number.", MachineBounds::machines);
        Sentences.bound("BAD: also n above 5, not as told; FULL; SIZE: n below 0 (ahead of the other ways n is not as "
            + "told).", MachineBounds::noMachines);
        Sentences.promise(9, "int is(int machine, int kind)");
        Sentences.bound("Whether the KIND of a MACHINE is, or is under, a KIND: 1, 0.", MachineBounds::kinds);
        Sentences.bound("BAD.", MachineBounds::noKinds);
        Sentences.promise(10, "int told(int machine, int what)");
        Sentences.bound("Of a MACHINE: 0 its KIND, 1 how many STATES, 2 at which it STANDS.", MachineBounds::tellings);
        Sentences.bound("BAD.", MachineBounds::noTellings);
        Sentences.promise(11, "int pay(int machine, int state, int v)");
        Sentences.bound("The PAY of a STATE is v: what it was (as 1000 and more).", MachineBounds::pays);
        Sentences.bound("BAD: MACHINE, v; BEYOND: the STATE; STATE: a JOB has none there (also for 0). (BEYOND ahead "
            + "of STATE.)", MachineBounds::noPays);
        Sentences.promise(12, "int chance(int machine, int state, int other, int w)");
        Sentences.bound("The WEIGHT of a STATE for another one is w: what it was.", MachineBounds::chances);
        Sentences.bound("BAD: MACHINE, w; UNLIKE: an AGEING; BEYOND: either STATE; STATE (behind these): the sum would "
            + "be 0 or above 10.", MachineBounds::noChances);
        Sentences.promise(13, "int fill(int machine, int sheet, int i)");
        Sentences.bound("All PAYS of a MACHINE become what a SHEET has from place i on: how many.",
            MachineBounds::fills);
        Sentences.bound("BAD: MACHINE, SHEET; NOTHING: it is missing; BEYOND: not so many there (i below 0, too); "
            + "STATE (behind these): one is not -50 .. 50, or a JOB has none there (and it is not 0).",
            MachineBounds::noFills);
        Sentences.promise(14, "int ask(int machine, int state, int what)");
        Sentences.bound("The PAY of a STATE (0) or its WEIGHT for STATE what - 1, told by asked(): 1.",
            MachineBounds::asks);
        Sentences.bound("BAD: MACHINE; BEYOND: the STATE; BAD (behind it): what is not 0 .. n.", MachineBounds::noAsks);
        Sentences.promise(15, "int stand(int machine, int state)");
        Sentences.bound("A MACHINE STANDS at a STATE: at which it stood.", MachineBounds::stands);
        Sentences.bound("BAD; BEYOND.", MachineBounds::noStands);
    }

    private static void machines() {
        for (int kind = 0; kind <= 3; kind++) {
            for (int n = 1; n <= 5; n++) {
                if (Worlds.fits(kind, n)) {
                    TinkerTrials x = new TinkerTrials();
                    for (int k = 0; k < 16; k++) {
                        Check.due("kind " + kind + " with " + n, x.machine(kind, n), k);
                    }
                    Check.due("its kind", x.told(15, 0), kind);
                    Check.due("its states", x.told(15, 1), n);
                    Check.due("one more", x.machine(kind, n), FULL);
                    Check.due("16 of them", x.count(0), 16);
                }
            }
        }
    }

    private static void noMachines() {
        int[] kinds = {LEAST, -1, 0, 1, 2, 3, 4, MOST};
        int[] sizes = {LEAST, -2, -1, 0, 1, 2, 3, 4, 5, 6, 7, MOST};
        for (int kind : kinds) {
            for (int n : sizes) {
                String what = "kind " + kind + " with " + n;
                boolean bad = kind < 0 || kind > 3 || n >= 0 && !Worlds.fits(kind, n);
                if (bad) {
                    Check.refused(what, Worlds::mixed, x -> x.machine(kind, n), BAD);
                    Check.refused(what + ", no room", Worlds::full, x -> x.machine(kind, n), BAD);
                } else {
                    Check.refused(what + ", no room", Worlds::full, x -> x.machine(kind, n), FULL);
                    if (n < 0) {
                        Check.finds(what, Worlds::mixed, x -> x.machine(kind, n), SIZE);
                    } else {
                        Check.due(what, Worlds.mixed().machine(kind, n), 4);
                    }
                }
            }
        }
    }

    private static void kinds() {
        int[][] due = {{1, 0, 0, 0}, {1, 1, 0, 0}, {1, 0, 1, 0}, {1, 0, 1, 1}};
        TinkerTrials x = Worlds.mixed();
        for (int k = 0; k <= 3; k++) {
            for (int kind = 0; kind <= 3; kind++) {
                Check.due("a " + k + " as a " + kind, x.is(k, kind), due[k][kind]);
            }
        }
    }

    private static void noKinds() {
        Refusals.hold(Worlds::mixed, (x, a) -> x.is(a[0], a[1]), Refusals.order(BAD),
            Refusals.any(Refusals.fit(0, 3), Refusals.wrong(BAD, Worlds.noMachine())),
            Refusals.any(Refusals.fit(0, 3), Refusals.wrong(BAD, -1, 4, MOST, LEAST)));
        Check.refused("none at all", Worlds::empty, x -> x.is(0, 0), BAD);
    }

    private static void tellings() {
        for (int kind = 0; kind <= 3; kind++) {
            for (int n = 1; n <= 5; n++) {
                if (Worlds.fits(kind, n)) {
                    TinkerTrials x = Worlds.one(kind, n);
                    Check.due("kind", x.told(0, 0), kind);
                    Check.due("states", x.told(0, 1), n);
                    Check.due("stands at the first one", x.told(0, 2), 0);
                    x.stand(0, n - 1);
                    Check.due("stands at the last one", x.told(0, 2), n - 1);
                }
            }
        }
    }

    private static void noTellings() {
        Refusals.hold(Worlds::mixed, (x, a) -> x.told(a[0], a[1]), Refusals.order(BAD),
            Refusals.any(Refusals.fit(0, 3), Refusals.wrong(BAD, Worlds.noMachine())),
            Refusals.any(Refusals.fit(0, 1, 2), Refusals.wrong(BAD, -1, 3, MOST, LEAST)));
        Check.refused("none at all", Worlds::empty, x -> x.told(0, 0), BAD);
    }

    private static void pays() {
        int[] row = {-50, 50, -49, 49, -1, 1, 0, 0, 50, -50};
        for (int state = 0; state <= 4; state += 4) {
            TinkerTrials x = new TinkerTrials();
            x.machine(0, 5);
            int was = 0;
            for (int v : row) {
                Check.due("pay " + v + " of " + state, x.pay(0, state, v), 1000 + was);
                was = v;
            }
            x.ask(0, 2, 0);
            Check.due("another state's stays", x.asked(), 0);
        }
    }

    private static void noPays() {
        int[] outside = {-51, 51, 1000, MOST, LEAST};
        Refusals.hold(Worlds::mixed, (x, a) -> x.pay(a[0], a[1], a[2]), Refusals.order(BAD, BEYOND, STATE),
            Refusals.any(Refusals.fit(3), Refusals.wrong(BAD, Worlds.noMachine())),
            Refusals.any(Refusals.fit(1), Refusals.wrong(BEYOND, -1, 3, 4, 5, MOST, LEAST),
                Refusals.wrong(STATE, 0, 2)),
            Refusals.any(Refusals.fit(-50, 0, 50), Refusals.wrong(BAD, outside)));
        for (int n = 1; n <= 5; n++) {
            int last = n;
            Refusals.hold(() -> Worlds.one(0, last), (x, a) -> x.pay(a[0], a[1], a[2]), Refusals.order(BAD, BEYOND),
                Refusals.any(Refusals.fit(0), Refusals.wrong(BAD, -1, 1)),
                Refusals.any(Refusals.fit(0, n - 1), Refusals.wrong(BEYOND, -1, n)),
                Refusals.any(Refusals.fit(-50, 50), Refusals.wrong(BAD, outside)));
        }
    }

    private static void chances() {
        TinkerTrials x = new TinkerTrials();
        x.machine(0, 5);
        Check.due("to 9, the sum is 10", x.chance(0, 4, 0, 9), 0);
        Check.due("the sum would be 11", x.chance(0, 4, 1, 1), STATE);
        Check.due("it stays 0", x.chance(0, 4, 1, 0), 0);
        Check.due("its own to 0", x.chance(0, 4, 4, 0), 1);
        Check.due("to 10", x.chance(0, 4, 0, 10), 9);
        Check.due("10 again", x.chance(0, 4, 0, 10), 10);
        Check.due("the sum would be 0", x.chance(0, 4, 0, 0), STATE);
        Check.due("to 1, the sum is 1", x.chance(0, 4, 0, 1), 10);
        Check.due("back to its own", x.chance(0, 4, 4, 9), 0);
        Check.due("another state's stays", x.chance(0, 0, 0, 1), 1);
        x.pay(0, 0, 10);
        // 1/20 of 20, that come by 0 in 2 steps, by 1 + 2/20; then 1/2 of them, by 1 + 2/2.
        Check.tells("worth ahead of a change", x, x.worth(0, 4), 10, 11);
        x.chance(0, 4, 4, 0);
        Check.tells("worth behind it", x, x.worth(0, 4), 5, 1);
        x.machine(1, 1);
        for (int w = 1; w <= 10; w++) {
            Check.due("a STEADY's", x.chance(1, 0, 0, w), Math.max(1, w - 1));
        }
    }

    private static void noChances() {
        int[] outside = {-1, 11, MOST, LEAST};
        // State 0 has weights 1, 1, 2 in the mixed world: for itself 8 comes to 11, 7 to 10.
        Refusals.hold(Worlds::mixed, (x, a) -> x.chance(a[0], a[1], a[2], a[3]), Refusals.order(BAD, UNLIKE, BEYOND),
            Refusals.any(Refusals.fit(0), Refusals.wrong(UNLIKE, 2, 3), Refusals.wrong(BAD, Worlds.noMachine())),
            Refusals.any(Refusals.fit(0, 2), Refusals.wrong(BEYOND, -1, 3, 4, 5, MOST, LEAST)),
            Refusals.any(Refusals.fit(0, 2), Refusals.wrong(BEYOND, -1, 3, 4, 5, MOST, LEAST)),
            Refusals.any(Refusals.fit(0, 1), Refusals.wrong(BAD, outside)));
        Refusals.hold(Worlds::mixed, (x, a) -> x.chance(0, a[0], a[1], a[2]), Refusals.order(BEYOND, STATE),
            Refusals.any(Refusals.fit(0), Refusals.wrong(BEYOND, -1, 3)),
            Refusals.any(Refusals.fit(0), Refusals.wrong(BEYOND, -1, 3)),
            Refusals.any(Refusals.fit(0, 7), Refusals.wrong(STATE, 8, 9, 10)));
        Refusals.hold(Worlds::mixed, (x, a) -> x.chance(1, a[0], a[1], a[2]), Refusals.order(BEYOND, STATE),
            Refusals.any(Refusals.fit(0), Refusals.wrong(BEYOND, -1, 1)),
            Refusals.any(Refusals.fit(0), Refusals.wrong(BEYOND, -1, 1)),
            Refusals.any(Refusals.fit(1, 10), Refusals.wrong(STATE, 0)));
    }

    private static void fills() {
        for (int sheetKind = 0; sheetKind <= 3; sheetKind++) {
            for (int n = 1; n <= 5; n++) {
                TinkerTrials x = new TinkerTrials();
                x.machine(0, n);
                x.sheet(sheetKind, 24);
                x.lay(0, 0, -50);
                x.lay(0, 23, 50);
                Check.due("from the first place", x.fill(0, 0, 0), n);
                x.ask(0, 0, 0);
                Check.due("the first pay", x.asked(), -50);
                Check.due("from the last places", x.fill(0, 0, 24 - n), n);
                x.ask(0, n - 1, 0);
                Check.due("the last pay", x.asked(), 50);
                Check.due("one place too few", x.fill(0, 0, 25 - n), FINDING);
                Check.due("beyond", x.finding(), BEYOND);
            }
        }
        Check.due("a JOB, all 0", Worlds.laid(3, 5, 0, 0, 0, 0, 0).fill(0, 0, 0), 5);
        Check.due("a JOB, 50", Worlds.laid(3, 5, 0, 0, 0, 50, 0).fill(0, 0, 0), 5);
        Check.due("the least JOB, -50", Worlds.laid(3, 2, -50, 0).fill(0, 0, 0), 2);
    }

    private static void noFills() {
        // A sheet of 6 places, all 10 and more: machine 0 takes them, the JOB can't.
        Refusals.hold(Worlds::mixed, (x, a) -> x.fill(a[0], a[1], a[2]), Refusals.order(BAD, NOTHING, BEYOND, STATE),
            Refusals.any(Refusals.fit(0), Refusals.wrong(STATE, 3), Refusals.wrong(BAD, Worlds.noMachine())),
            Refusals.any(Refusals.fit(0), Refusals.wrong(STATE, 3), Refusals.wrong(NOTHING, 2),
                Refusals.wrong(BEYOND, 4), Refusals.wrong(BAD, Worlds.noSheet())),
            Refusals.any(Refusals.fit(0, 3), Refusals.wrong(BEYOND, -1, 4, 6, 24, MOST, MOST - 2, LEAST)));
        long[] outside = {-51, 51, 1L << 32, (1L << 32) + 1, 256, 65536, Long.MAX_VALUE, Long.MIN_VALUE};
        for (long v : outside) {
            for (int at = 0; at < 5; at++) {
                long[] row = {1, 2, 3, 4, 5};
                row[at] = v;
                Check.refused(v + " at " + at, () -> Worlds.laid(2, 5, row), x -> x.fill(0, 0, 0), STATE);
            }
        }
        for (int n = 2; n <= 5; n++) {
            for (int at = 0; at < n; at++) {
                long[] row = new long[n];
                row[at] = at % 2 == 0 ? 1 : -1;
                int many = n;
                if (at == n - 2) {
                    Check.due("a JOB of " + n + ", at " + at, Worlds.laid(3, n, row).fill(0, 0, 0), n);
                } else {
                    Check.refused("a JOB of " + n + ", at " + at, () -> Worlds.laid(3, many, row), x -> x.fill(0, 0, 0),
                        STATE);
                }
            }
        }
    }

    private static void asks() {
        for (int n = 1; n <= 5; n++) {
            TinkerTrials x = Worlds.one(0, n);
            x.pay(0, n - 1, -50);
            x.chance(0, n - 1, n - 1, 9);
            x.chance(0, n - 1, 0, n == 1 ? 10 : 1);
            Check.due("the pay of " + n, x.ask(0, n - 1, 0), 1);
            Check.due("it is", x.asked(), -50);
            Check.due("the first weight", x.ask(0, n - 1, 1), 1);
            Check.due("it is", x.asked(), n == 1 ? 10 : 1);
            Check.due("the last weight", x.ask(0, n - 1, n), 1);
            Check.due("it is", x.asked(), n == 1 ? 10 : 9);
            Check.due("no weight more", x.ask(0, n - 1, n + 1), BAD);
            Check.due("no finding by that", x.finding(), 0);
        }
    }

    private static void noAsks() {
        int behind = -7;
        int[] wrong = {-1, 4, 6, MOST, LEAST};
        for (int what : wrong) {
            Check.refused("what " + what, Worlds::mixed, x -> x.ask(0, 2, what), BAD);
            for (int state : new int[] {-1, 3, 5, MOST, LEAST}) {
                Check.finds("BEYOND ahead of what " + what, Worlds::mixed, x -> x.ask(0, state, what), BEYOND);
            }
            for (int machine : Worlds.noMachine()) {
                Check.refused("no machine, what " + what, Worlds::mixed, x -> x.ask(machine, 0, what), BAD);
                Check.refused("nothing fits, what " + what, Worlds::mixed, x -> x.ask(machine, behind, what), BAD);
            }
        }
        Refusals.hold(Worlds::mixed, (x, a) -> x.ask(a[0], a[1], a[2]), Refusals.order(BAD, BEYOND),
            Refusals.any(Refusals.fit(0), Refusals.wrong(BAD, Worlds.noMachine())),
            Refusals.any(Refusals.fit(0, 2), Refusals.wrong(BEYOND, -1, 3, 5, MOST, LEAST)), Refusals.fit(0, 1, 3));
    }

    private static void stands() {
        TinkerTrials x = Worlds.one(0, 5);
        Check.due("at first", x.stand(0, 4), 0);
        Check.due("at the last one", x.stand(0, 4), 4);
        Check.due("at the last one still", x.stand(0, 0), 4);
        Check.due("at the first one", x.told(0, 2), 0);
        x = Worlds.one(2, 5);
        x.work(0);
        Check.due("where it was worked to", x.stand(0, 3), 1);
    }

    private static void noStands() {
        Refusals.hold(Worlds::mixed, (x, a) -> x.stand(a[0], a[1]), Refusals.order(BAD, BEYOND),
            Refusals.any(Refusals.fit(0, 3), Refusals.wrong(BAD, Worlds.noMachine())),
            Refusals.any(Refusals.fit(0, 2), Refusals.wrong(BEYOND, -1, 3, 5, MOST, LEAST)));
        Refusals.hold(Worlds::mixed, (x, a) -> x.stand(1, a[0]), Refusals.order(BEYOND),
            Refusals.any(Refusals.fit(0), Refusals.wrong(BEYOND, -1, 1)));
    }
}
