/** Promises 1 to 7, sentence by sentence. */
final class SheetBounds {
    private static final int BAD = TinkerTrials.BAD, FULL = TinkerTrials.FULL, FINDING = TinkerTrials.FINDING;
    private static final int NOTHING = 1, BEYOND = 2, UNLIKE = 3, SIZE = 5;
    private static final int LEAST = Worlds.LEAST, MOST = Worlds.MOST;
    /** From, to, how many: sheet 3 has 6 places, sheet 1 has 4. */
    private static final int[][] PLACES = {{0, 0, 4}, {2, 0, 4}, {5, 3, 1}, {6, 4, 0}, {0, 0, 0}, {0, 4, 0}, {6, 0, 0},
        {-1, 0, 1}, {0, -1, 1}, {0, 0, -1}, {3, 0, 4}, {0, 1, 4}, {0, 0, 5}, {6, 0, 1}, {0, 4, 1}, {7, 0, 0}, {0, 5, 0},
        {-1, 0, 0}, {0, -1, 0}, {MOST, 0, 0}, {0, MOST, 0}, {MOST, 0, 1}, {0, MOST, 1}, {0, 0, MOST}, {1, 1, MOST},
        {MOST, MOST, MOST}, {LEAST, 0, 1}, {0, LEAST, 1}, {0, 0, LEAST}, {LEAST, LEAST, LEAST}, {6, 4, LEAST},
        {2, 0, -1}};
    private static final int FITTING = 7;

    private SheetBounds() {
    }

    static void all() {
        Sentences.promise(1, "TinkerTrials()");
        Sentences.bound("No MACHINES, no SHEETS; THE SEED is 1.", SheetBounds::aNewObject);
        Sentences.promise(2, "int share(int p, int q)");
        Sentences.bound("THE SHARE is p by q: 1.", SheetBounds::shares);
        Sentences.bound("BAD.", SheetBounds::badShares);
        Sentences.promise(3, "int sheet(int kind, int n)");
        Sentences.bound("A SHEET of a kind with n places, all 0: its number.", SheetBounds::sheets);
        Sentences.bound("BAD: also n above 24; FULL; SIZE.", SheetBounds::noSheets);
        Sentences.promise(4, "int tear(int sheet)");
        Sentences.bound("A SHEET is missing from now on: 1.", SheetBounds::tears);
        Sentences.bound("BAD; NOTHING: it is so already.", SheetBounds::noTears);
        Sentences.promise(5, "int lay(int sheet, int i, long v)");
        Sentences.bound("A place of a SHEET is v, cut to its kind: 1.", SheetBounds::lays);
        Sentences.bound("BAD; NOTHING; BEYOND.", SheetBounds::noLays);
        Sentences.promise(6, "int get(int sheet, int i)");
        Sentences.bound("What a place of a SHEET has, told by asked(): 1.", SheetBounds::gets);
        Sentences.bound("As lay().", SheetBounds::noGets);
        Sentences.promise(7, "int copy(int sheet, int i, int other, int j, int n)");
        Sentences.bound("n places of a SHEET, from one on, come to those of another one (perhaps itself) from one on, "
            + "as if taken ahead: 1.", SheetBounds::copies);
        Sentences.bound("BAD: SHEETS; NOTHING: either; UNLIKE: of another kind; BEYOND: not so many there (a place, n "
            + "below 0, too).", SheetBounds::noCopies);
    }

    private static void aNewObject() {
        TinkerTrials x = new TinkerTrials();
        Check.due("machines", x.count(0), 0);
        Check.due("sheets", x.count(1), 0);
        Check.due("the seed", x.count(4), 1);
        Check.due("no machine 0", x.told(0, 0), BAD);
        Check.due("no sheet 0", x.tear(0), BAD);
        Check.due("the play has none", x.best(), TinkerTrials.NONE);
        Check.due("nothing paid", x.paid(), 0);
        Check.due("the seed was", x.seed(0), 1);
        Check.due("the first machine", x.machine(0, 1), 0);
        Check.due("the first sheet", x.sheet(0, 0), 0);
        Check.due("another new one has none", new TinkerTrials().count(0), 0);
    }

    private static void shares() {
        int[][] all = {{1, 2}, {1, 8}, {7, 8}, {2, 4}, {1, 3}};
        TinkerTrials x = new TinkerTrials();
        for (int[] one : all) {
            Check.due("share " + one[0] + " by " + one[1], x.share(one[0], one[1]), 1);
            Check.due("p", x.count(2), one[0]);
            Check.due("q", x.count(3), one[1]);
        }
        x = new TinkerTrials();
        for (int k = 0; k < 16; k++) {
            x.machine(2, 2);
            x.pay(k, 1, 8);
            x.worth(k, 0);
        }
        for (int k = 0; k < 16; k++) {
            x.share(3, 4);
            Check.tells("reckoned anew for machine " + k, x, x.worth(k, 0), 6, 1);
            x.share(1, 8);
            Check.tells("and once more", x, x.worth(k, 0), 1, 1);
        }
    }

    private static void badShares() {
        int[][] all = {{0, 1}, {0, 2}, {0, 8}, {-1, 2}, {1, 1}, {2, 2}, {8, 8}, {2, 1}, {8, 7}, {1, 9}, {8, 9}, {1, 0},
            {1, -1}, {-2, -1}, {LEAST, LEAST}, {LEAST, MOST}, {MOST, MOST}, {1, MOST}, {LEAST, 1}, {MOST, LEAST}};
        for (int[] one : all) {
            Check.refused(one[0] + " by " + one[1], Worlds::mixed, x -> x.share(one[0], one[1]), BAD);
        }
    }

    private static void sheets() {
        for (int kind = 0; kind <= 3; kind++) {
            for (int n = 0; n <= 24; n++) {
                TinkerTrials x = new TinkerTrials();
                Check.due("kind " + kind + " with " + n, x.sheet(kind, n), 0);
                for (int i = 0; i < n; i++) {
                    Check.due("place " + i, x.get(0, i), 1);
                    Check.due("is 0", x.asked(), 0);
                }
                Check.due("no place " + n, x.get(0, n), FINDING);
            }
        }
        TinkerTrials x = new TinkerTrials();
        for (int k = 0; k < 12; k++) {
            Check.due("number", x.sheet(0, k), k);
        }
    }

    private static void noSheets() {
        Refusals.hold(Worlds::mixed, (x, a) -> x.sheet(a[0], a[1]), Refusals.order(BAD, SIZE),
            Refusals.any(Refusals.fit(0, 1, 2, 3), Refusals.wrong(BAD, -1, 4, MOST, LEAST)),
            Refusals.any(Refusals.fit(0, 24), Refusals.wrong(BAD, 25, 26, MOST), Refusals.wrong(SIZE, -1, LEAST)));
        Refusals.hold(Worlds::full, (x, a) -> x.sheet(a[0], a[1]), Refusals.order(BAD, FULL),
            Refusals.any(Refusals.wrong(FULL, 0, 3), Refusals.wrong(BAD, -1, 4)),
            Refusals.any(Refusals.fit(0, 24), Refusals.wrong(BAD, 25, MOST), Refusals.wrong(FULL, -1, LEAST)));
    }

    private static void tears() {
        for (int n = 0; n <= 24; n += 12) {
            TinkerTrials x = new TinkerTrials();
            x.sheet(0, n);
            x.sheet(0, n);
            Check.due("a sheet of " + n, x.tear(0), 1);
            Check.due("get", x.get(0, 0), FINDING);
            Check.due("nothing", x.finding(), NOTHING);
            Check.due("lay", x.lay(0, 0, 0), FINDING);
            Check.due("copy none", x.copy(0, 0, 0, 0, 0), FINDING);
            Check.due("nothing three times", x.findings(NOTHING), 3);
            x.sheet(0, n);
            Check.due("still", x.tear(0), FINDING);
            Check.due("the other one", x.tear(1), 1);
        }
    }

    private static void noTears() {
        Refusals.hold(Worlds::mixed, (x, a) -> x.tear(a[0]), Refusals.order(BAD, NOTHING),
            Refusals.any(Refusals.fit(0, 4), Refusals.wrong(NOTHING, 2), Refusals.wrong(BAD, Worlds.noSheet())));
        Refusals.hold(Worlds::full, (x, a) -> x.tear(a[0]), Refusals.order(BAD, NOTHING),
            Refusals.any(Refusals.fit(0, 11), Refusals.wrong(NOTHING, 3), Refusals.wrong(BAD, -1, 12)));
        Refusals.hold(Worlds::empty, (x, a) -> x.tear(a[0]), Refusals.order(BAD), Refusals.wrong(BAD, 0, 1, -1));
    }

    private static void lays() {
        long[] laid = {0, 127, 128, 255, 256, -128, -129, 32767, 32768, 65535, 65536, -32768, -32769, Integer.MAX_VALUE,
            1L + Integer.MAX_VALUE, 1L << 32, Integer.MIN_VALUE, Integer.MIN_VALUE - 1L, Long.MAX_VALUE,
            Long.MIN_VALUE};
        long[][] due = {
            {0, 127, -128, -1, 0, -128, 127, -1, 0, -1, 0, 0, -1, -1, 0, 0, 0, -1, -1, 0},
            {0, 127, 128, 255, 256, -128, -129, 32767, -32768, -1, 0, -32768, 32767, -1, 0, 0, 0, -1, -1, 0},
            {0, 127, 128, 255, 256, -128, -129, 32767, 32768, 65535, 65536, -32768, -32769, Integer.MAX_VALUE,
                Integer.MIN_VALUE, 0, Integer.MIN_VALUE, Integer.MAX_VALUE, -1, 0},
            laid};
        for (int kind = 0; kind <= 3; kind++) {
            TinkerTrials x = new TinkerTrials();
            x.sheet(kind, 24);
            for (int k = 0; k < laid.length; k++) {
                int place = k % 2 == 0 ? 0 : 23;
                Check.due("lay", x.lay(0, place, laid[k]), 1);
                x.get(0, place);
                Check.due("kind " + kind + ", " + laid[k], x.asked(), due[kind][k]);
            }
        }
    }

    private static void noLays() {
        Refusals.hold(Worlds::mixed, (x, a) -> x.lay(a[0], a[1], a[2]), Refusals.order(BAD, NOTHING, BEYOND),
            Refusals.any(Refusals.fit(0), Refusals.wrong(NOTHING, 2), Refusals.wrong(BAD, Worlds.noSheet())),
            Refusals.any(Refusals.fit(0, 5), Refusals.wrong(BEYOND, -1, 6, 24, MOST, LEAST)),
            Refusals.fit(0, 1, MOST, LEAST));
        Refusals.hold(Worlds::mixed, (x, a) -> x.lay(4, a[0], 1), Refusals.order(BEYOND),
            Refusals.wrong(BEYOND, 0, -1, 1, MOST, LEAST));
    }

    private static void gets() {
        TinkerTrials x = new TinkerTrials();
        x.sheet(3, 24);
        x.lay(0, 0, Long.MIN_VALUE);
        x.lay(0, 23, Long.MAX_VALUE);
        Check.due("the first place", x.get(0, 0), 1);
        Check.due("it has", x.asked(), Long.MIN_VALUE);
        Check.due("the last place", x.get(0, 23), 1);
        Check.due("it has", x.asked(), Long.MAX_VALUE);
        Check.due("behind it", x.get(0, 24), FINDING);
        Check.due("tells nothing", x.asked(), Long.MAX_VALUE);
    }

    private static void noGets() {
        Refusals.hold(Worlds::mixed, (x, a) -> x.get(a[0], a[1]), Refusals.order(BAD, NOTHING, BEYOND),
            Refusals.any(Refusals.fit(0), Refusals.wrong(NOTHING, 2), Refusals.wrong(BAD, Worlds.noSheet())),
            Refusals.any(Refusals.fit(0, 5), Refusals.wrong(BEYOND, -1, 6, 24, MOST, LEAST)));
        Refusals.hold(Worlds::mixed, (x, a) -> x.get(4, a[0]), Refusals.order(BEYOND),
            Refusals.wrong(BEYOND, 0, -1, 1, MOST, LEAST));
    }

    /** A sheet of n places, of which place i has i + 1. */
    private static TinkerTrials counted(int n) {
        TinkerTrials x = new TinkerTrials();
        x.sheet(0, n);
        for (int i = 0; i < n; i++) {
            x.lay(0, i, i + 1);
        }
        return x;
    }

    private static void copies() {
        int n = 5;
        for (int i = 0; i <= n; i++) {
            for (int j = 0; j <= n; j++) {
                for (int many = 0; many <= n + 1; many++) {
                    boolean fits = i + many <= n && j + many <= n;
                    TinkerTrials x = counted(n);
                    Check.due(many + " from " + i + " to " + j, x.copy(0, i, 0, j, many), fits ? 1 : FINDING);
                    for (int k = 0; k < n; k++) {
                        x.get(0, k);
                        Check.due("place " + k, x.asked(), fits && k >= j && k < j + many ? k - j + i + 1 : k + 1);
                    }
                }
            }
        }
        TinkerTrials x = counted(24);
        x.sheet(0, 24);
        Check.due("all of another one", x.copy(0, 0, 1, 0, 24), 1);
        x.get(1, 23);
        Check.due("its last place", x.asked(), 24);
        Check.due("none of a sheet without places", Worlds.mixed().copy(4, 0, 4, 0, 0), 1);
    }

    private static void noCopies() {
        int[] fitting = new int[FITTING];
        int[] beyond = new int[PLACES.length - FITTING];
        for (int k = 0; k < PLACES.length; k++) {
            if (k < FITTING) {
                fitting[k] = k;
            } else {
                beyond[k - FITTING] = k;
            }
        }
        Refusals.hold(Worlds::mixed,
            (x, a) -> x.copy(a[0], PLACES[a[2]][0], a[1], PLACES[a[2]][1], PLACES[a[2]][2]),
            Refusals.order(BAD, NOTHING, UNLIKE, BEYOND),
            Refusals.any(Refusals.fit(3), Refusals.wrong(NOTHING, 2), Refusals.wrong(BAD, Worlds.noSheet())),
            Refusals.any(Refusals.fit(1), Refusals.wrong(UNLIKE, 0, 4), Refusals.wrong(NOTHING, 2),
                Refusals.wrong(BAD, Worlds.noSheet())),
            Refusals.any(Refusals.fit(fitting), Refusals.wrong(BEYOND, beyond)));
        Refusals.hold(Worlds::mixed, (x, a) -> x.copy(4, a[0], 4, a[1], a[2]), Refusals.order(BEYOND),
            Refusals.any(Refusals.fit(0), Refusals.wrong(BEYOND, -1, 1)),
            Refusals.any(Refusals.fit(0), Refusals.wrong(BEYOND, -1, 1)),
            Refusals.any(Refusals.fit(0), Refusals.wrong(BEYOND, -1, 1)));
    }
}
