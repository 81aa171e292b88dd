/** Promises 1 to 7: a new object, the share, the sheets. */
public final class SheetsTest {
    private static final int BAD = TinkerTrials.BAD, FULL = TinkerTrials.FULL;
    private static final int NOTHING = 1, BEYOND = 2, UNLIKE = 3, SIZE = 5;
    private static final int LEAST = Integer.MIN_VALUE, MOST = Integer.MAX_VALUE;

    private SheetsTest() {
    }

    public static void main(String[] args) {
        aNewObject();
        shares();
        refusedShares();
        sheets();
        refusedSheets();
        tears();
        lays();
        cuts();
        refusedPlaces();
        copies();
        refusedCopies();
        Check.end("SheetsTest");
    }

    private static void aNewObject() {
        TinkerTrials x = new TinkerTrials();
        Check.due("1 machines", x.count(0), 0);
        Check.due("1 sheets", x.count(1), 0);
        Check.due("1 p", x.count(2), 1);
        Check.due("1 q", x.count(3), 2);
        Check.due("1 seed", x.count(4), 1);
        Check.due("1 paid", x.paid(), 0);
        Check.due("1 asked", x.asked(), 0);
        Check.due("1 finding", x.finding(), 0);
        for (int f = 1; f <= 6; f++) {
            Check.due("1 findings " + f, x.findings(f), 0);
        }
        Check.due("1 step", x.step(0), TinkerTrials.NONE);
        Check.told("1", x, 0, 1);
        long h = ((17 * 31 + 1) * 31 + 2) * 31 + 1;
        Check.due("1 digest", x.digest(), h);
    }

    private static void shares() {
        for (int p = -1; p <= 10; p++) {
            for (int q = -1; q <= 10; q++) {
                TinkerTrials x = new TinkerTrials();
                boolean fits = 1 <= p && p < q && q <= 8;
                Check.due("2 share " + p + " by " + q, x.share(p, q), fits ? 1 : BAD);
                Check.due("2 p", x.count(2), fits ? p : 1);
                Check.due("2 q", x.count(3), fits ? q : 2);
            }
        }
        TinkerTrials x = new TinkerTrials();
        x.machine(2, 2);
        x.pay(0, 1, 10);
        Check.tells("2 worth at 1 by 2", x, x.worth(0, 0), 5, 1);
        x.share(3, 4);
        Check.tells("2 worth at 3 by 4", x, x.worth(0, 0), 15, 2);
        x.share(4, 8);
        Check.due("2 p stays as told", x.count(2), 4);
        Check.due("2 q stays as told", x.count(3), 8);
        Check.tells("2 worth at 4 by 8", x, x.worth(0, 0), 5, 1);
    }

    private static void refusedShares() {
        Check.refused("2 p 0", Worlds::mixed, x -> x.share(0, 2), BAD);
        Check.refused("2 p as q", Worlds::mixed, x -> x.share(3, 3), BAD);
        Check.refused("2 p above q", Worlds::mixed, x -> x.share(4, 3), BAD);
        Check.refused("2 q 9", Worlds::mixed, x -> x.share(1, 9), BAD);
        Check.refused("2 all below", Worlds::mixed, x -> x.share(LEAST, LEAST), BAD);
        Check.refused("2 all above", Worlds::mixed, x -> x.share(1, MOST), BAD);
    }

    private static void sheets() {
        TinkerTrials x = new TinkerTrials();
        Check.due("3 the first", x.sheet(0, 24), 0);
        Check.due("3 the second", x.sheet(3, 0), 1);
        x.tear(0);
        Check.due("3 one behind a missing one", x.sheet(2, 1), 2);
        Check.due("3 count", x.count(1), 3);
        Check.due("3 get", x.get(2, 0), 1);
        Check.due("3 all 0", x.asked(), 0);
        Check.due("3 no place more", x.get(2, 1), TinkerTrials.FINDING);
        for (int k = 3; k < 12; k++) {
            Check.due("3 number", x.sheet(1, k), k);
        }
        Check.due("3 a 13th", x.sheet(1, 1), FULL);
        Check.due("3 count of all", x.count(1), 12);
    }

    private static void refusedSheets() {
        Check.refused("3 kind -1", Worlds::mixed, x -> x.sheet(-1, 1), BAD);
        Check.refused("3 kind 4", Worlds::mixed, x -> x.sheet(4, 1), BAD);
        Check.refused("3 n 25", Worlds::mixed, x -> x.sheet(0, 25), BAD);
        Check.refused("3 n above all", Worlds::mixed, x -> x.sheet(0, MOST), BAD);
        Check.refused("3 kind 4 ahead of SIZE", Worlds::mixed, x -> x.sheet(4, -1), BAD);
        Check.refused("3 BAD ahead of FULL", Worlds::full, x -> x.sheet(0, 25), BAD);
        Check.refused("3 kind ahead of FULL", Worlds::full, x -> x.sheet(-1, 1), BAD);
        Check.refused("3 FULL", Worlds::full, x -> x.sheet(0, 1), FULL);
        Check.refused("3 FULL ahead of SIZE", Worlds::full, x -> x.sheet(0, -1), FULL);
        Check.finds("3 SIZE", Worlds::mixed, x -> x.sheet(0, -1), SIZE);
        Check.finds("3 SIZE below all", Worlds::mixed, x -> x.sheet(3, LEAST), SIZE);
    }

    private static void tears() {
        TinkerTrials x = new TinkerTrials();
        x.sheet(0, 2);
        x.sheet(0, 2);
        Check.due("4 tear", x.tear(0), 1);
        Check.due("4 still counted", x.count(1), 2);
        Check.due("4 missing", x.get(0, 0), TinkerTrials.FINDING);
        Check.due("4 the other one is there", x.get(1, 0), 1);
        Check.refused("4 none", Worlds::empty, y -> y.tear(0), BAD);
        Check.refused("4 -1", Worlds::mixed, y -> y.tear(-1), BAD);
        Check.refused("4 behind all", Worlds::mixed, y -> y.tear(5), BAD);
        Check.refused("4 far behind", Worlds::full, y -> y.tear(12), BAD);
        Check.refused("4 farthest", Worlds::full, y -> y.tear(MOST), BAD);
        Check.finds("4 so already", Worlds::mixed, y -> y.tear(2), NOTHING);
    }

    private static void lays() {
        TinkerTrials x = new TinkerTrials();
        x.sheet(3, 3);
        Check.due("5 lay", x.lay(0, 2, Long.MIN_VALUE), 1);
        Check.due("5 asked stays", x.asked(), 0);
        Check.due("6 get", x.get(0, 2), 1);
        Check.due("6 asked", x.asked(), Long.MIN_VALUE);
        Check.due("6 get the other place", x.get(0, 1), 1);
        Check.due("6 asked", x.asked(), 0);
        x.lay(0, 2, 5);
        x.get(0, 2);
        Check.due("5 laid again", x.asked(), 5);
    }

    private static void cuts() {
        long[] laid = {0, 1, -1, 127, 128, -128, -129, 300, 32767, 32768, -32769, 65536, 2147483647L, 2147483648L,
            -2147483649L, 4294967296L, Long.MAX_VALUE, Long.MIN_VALUE, 0x123456789ABCDEF0L};
        TinkerTrials x = new TinkerTrials();
        for (int kind = 0; kind <= 3; kind++) {
            x.sheet(kind, 1);
            for (long v : laid) {
                x.lay(kind, 0, v);
                x.get(kind, 0);
                Check.due("5 " + v + " cut to kind " + kind, x.asked(), cut(kind, v));
            }
        }
    }

    /** The lowest 8, 16, 32 or 64 bits, the first of them a sign. */
    private static long cut(int kind, long v) {
        int away = 64 - (8 << kind);
        return v << away >> away;
    }

    private static void refusedPlaces() {
        int[] none = {-1, 5, 12, MOST, LEAST};
        for (int sheet : none) {
            Check.refused("5 no sheet " + sheet, Worlds::mixed, x -> x.lay(sheet, 0, 1), BAD);
            Check.refused("6 no sheet " + sheet, Worlds::mixed, x -> x.get(sheet, 0), BAD);
        }
        Check.finds("5 missing", Worlds::mixed, x -> x.lay(2, 0, 1), NOTHING);
        Check.finds("5 missing ahead of BEYOND", Worlds::mixed, x -> x.lay(2, 9, 1), NOTHING);
        Check.finds("6 missing", Worlds::mixed, x -> x.get(2, 0), NOTHING);
        Check.finds("6 missing ahead of BEYOND", Worlds::mixed, x -> x.get(2, -1), NOTHING);
        int[] beyond = {-1, 6, 24, MOST, LEAST};
        for (int i : beyond) {
            Check.finds("5 place " + i, Worlds::mixed, x -> x.lay(0, i, 1), BEYOND);
            Check.finds("6 place " + i, Worlds::mixed, x -> x.get(0, i), BEYOND);
        }
        Check.finds("5 a sheet without places", Worlds::mixed, x -> x.lay(4, 0, 1), BEYOND);
        Check.finds("6 a sheet without places", Worlds::mixed, x -> x.get(4, 0), BEYOND);
    }

    private static void holds(String what, TinkerTrials x, int sheet, long... places) {
        for (int i = 0; i < places.length; i++) {
            x.get(sheet, i);
            Check.due(what + ": place " + i, x.asked(), places[i]);
        }
    }

    private static void copies() {
        TinkerTrials x = Worlds.mixed();
        Check.due("7 to itself, behind", x.copy(0, 0, 0, 2, 4), 1);
        holds("7 behind", x, 0, 10, 11, 10, 11, 12, 13);
        x = Worlds.mixed();
        Check.due("7 to itself, ahead", x.copy(0, 1, 0, 0, 5), 1);
        holds("7 ahead", x, 0, 11, 12, 13, 14, 15, 15);
        x = Worlds.mixed();
        Check.due("7 to another one", x.copy(1, 1, 3, 4, 2), 1);
        holds("7 another one", x, 3, 0, -1000000000000L, -2000000000000L, -3000000000000L, 51, 7);
        holds("7 the first one stays", x, 1, 0, 51, 7, 0);
        x = Worlds.mixed();
        Check.due("7 all of it", x.copy(0, 0, 0, 0, 6), 1);
        Check.due("7 none, behind the last ones", x.copy(0, 6, 0, 6, 0), 1);
        Check.due("7 none of none", x.copy(4, 0, 4, 0, 0), 1);
        holds("7 as it was", x, 0, 10, 11, 12, 13, 14, 15);
        Check.due("7 tells nothing", x.digest(), Worlds.mixed().digest());
    }

    private static void refusedCopies() {
        Check.refused("7 no first", Worlds::mixed, x -> x.copy(-1, 0, 0, 0, 1), BAD);
        Check.refused("7 no second", Worlds::mixed, x -> x.copy(0, 0, 5, 0, 1), BAD);
        Check.refused("7 no second ahead of missing", Worlds::mixed, x -> x.copy(2, 0, MOST, 0, 1), BAD);
        Check.finds("7 first missing", Worlds::mixed, x -> x.copy(2, 0, 0, 0, 1), NOTHING);
        Check.finds("7 second missing", Worlds::mixed, x -> x.copy(0, 0, 2, 0, 1), NOTHING);
        Check.finds("7 missing, none copied", Worlds::mixed, x -> x.copy(2, 0, 2, 0, 0), NOTHING);
        Check.finds("7 another kind", Worlds::mixed, x -> x.copy(0, 0, 1, 0, 1), UNLIKE);
        Check.finds("7 another kind ahead of BEYOND", Worlds::mixed, x -> x.copy(0, 9, 1, 9, -1), UNLIKE);
        int[][] beyond = {{-1, 0, 1}, {0, -1, 1}, {0, 0, -1}, {5, 0, 2}, {0, 5, 2}, {0, 0, 7}, {7, 0, 0}, {0, 7, 0},
            {MOST, 0, 1}, {0, MOST, 1}, {1, 1, MOST}, {MOST, MOST, MOST}, {LEAST, LEAST, LEAST}, {6, 0, 1}, {0, 6, 1}};
        for (int[] b : beyond) {
            Check.finds("7 " + b[0] + " to " + b[1] + ", " + b[2], Worlds::mixed,
                x -> x.copy(0, b[0], 0, b[1], b[2]), BEYOND);
        }
        Check.finds("7 not so many in the first", Worlds::mixed, x -> x.copy(1, 0, 3, 0, 5), BEYOND);
        Check.finds("7 not so many in the second", Worlds::mixed, x -> x.copy(3, 0, 1, 0, 5), BEYOND);
    }
}
