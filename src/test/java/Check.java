import java.util.function.Supplier;
import java.util.function.ToLongFunction;

/** Counts what a test looks at, prints what is not as due, and ends the test. */
final class Check {
    private static int looked = 0;
    private static int wrong = 0;
    private static String about = "";

    private Check() {
    }

    /** What the looks from now on are about; said ahead of each that is wrong. */
    static void about(String sentence) {
        about = sentence.isEmpty() ? "" : "[" + sentence + "] ";
    }

    static int looked() {
        return looked;
    }

    static void due(String what, long got, long want) {
        looked++;
        if (got != want) {
            wrong++;
            System.out.println("  " + about + what + " answered " + got + ", due is " + want);
        }
    }

    /** The fraction told last. */
    static void told(String what, TinkerTrials x, long upper, long lower) {
        due(what + ": upper()", x.upper(), upper);
        due(what + ": lower()", x.lower(), lower);
    }

    /** A call that answers 1 and tells a fraction. */
    static void tells(String what, TinkerTrials x, int answer, long upper, long lower) {
        due(what, answer, 1);
        told(what, x, upper, lower);
    }

    /** A call refused without a finding changes nothing at all. */
    static void refused(String what, Supplier<TinkerTrials> world, ToLongFunction<TinkerTrials> call, long answer) {
        refused(what, world, call, answer, 0);
    }

    /** A finding (1 .. 6) is answered by FINDING and changes finding() and its own count alone. */
    static void finds(String what, Supplier<TinkerTrials> world, ToLongFunction<TinkerTrials> call, int finding) {
        refused(what, world, call, TinkerTrials.FINDING, finding);
    }

    /** Holds a world in which the call was refused against one in which it was never made. */
    private static void refused(String what, Supplier<TinkerTrials> world, ToLongFunction<TinkerTrials> call,
            long answer, int finding) {
        TinkerTrials untouched = world.get();
        TinkerTrials x = world.get();
        due(what, call.applyAsLong(x), answer);
        due(what + ": finding()", x.finding(), finding == 0 ? untouched.finding() : finding);
        for (int f = 1; f <= 6; f++) {
            due(what + ": findings(" + f + ")", x.findings(f), untouched.findings(f) + (f == finding ? 1 : 0));
        }
        long[] after = Worlds.all(x);
        long[] before = Worlds.all(untouched);
        due(what + ": places of all that is told", after.length, before.length);
        for (int i = 0; i < after.length && i < before.length; i++) {
            due(what + ": place " + i + " of all that is told", after[i], before[i]);
        }
    }

    static void end(String name) {
        System.out.println(name + ": " + looked + " looked at, " + wrong + " wrong");
        if (wrong != 0 || looked == 0) {
            System.exit(1);
        }
    }
}
