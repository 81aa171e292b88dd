import java.util.Arrays;
import java.util.function.Supplier;

/**
 * Every way to refuse a call, alone and together with all others: each way to give the arguments is tried, and
 * the first reason in the call's order is due; what is refused must change nothing but the findings.
 */
final class Refusals {
    static final int FITS = 0;

    /** A value of an argument, and for what it is refused: FITS, BAD, FULL, STATE or a finding (1 .. 6). */
    record Given(int value, int why) {
    }

    interface Call {
        long of(TinkerTrials x, int[] given);
    }

    private Refusals() {
    }

    static Given[] fit(int... values) {
        return wrong(FITS, values);
    }

    static Given[] wrong(int why, int... values) {
        Given[] all = new Given[values.length];
        for (int k = 0; k < values.length; k++) {
            all[k] = new Given(values[k], why);
        }
        return all;
    }

    static Given[] any(Given[]... parts) {
        Given[] all = new Given[0];
        for (Given[] part : parts) {
            all = Arrays.copyOf(all, all.length + part.length);
            System.arraycopy(part, 0, all, all.length - part.length, part.length);
        }
        return all;
    }

    static int[] order(int... whys) {
        return whys;
    }

    static void hold(Supplier<TinkerTrials> world, Call call, int[] order, Given[]... arguments) {
        int ways = 1;
        for (Given[] one : arguments) {
            ways *= one.length;
        }
        int[] met = new int[order.length + 1];
        for (int way = 0; way < ways; way++) {
            int[] given = new int[arguments.length];
            int first = order.length;
            int rest = way;
            for (int k = 0; k < arguments.length; k++) {
                Given one = arguments[k][rest % arguments[k].length];
                rest /= arguments[k].length;
                given[k] = one.value;
                first = Math.min(first, placeOf(order, one.why));
            }
            met[first]++;
            answers(Arrays.toString(given), world, call, given, first < order.length ? order[first] : FITS);
        }
        for (int k = 0; k < order.length; k++) {
            Check.due("a way to be refused by " + order[k] + " was tried", met[k] > 0 ? 1 : 0, 1);
        }
    }

    private static int placeOf(int[] order, int why) {
        if (why == FITS) {
            return order.length;
        }
        for (int k = 0; k < order.length; k++) {
            if (order[k] == why) {
                return k;
            }
        }
        Check.due("a reason without a place in the order", why, FITS);
        return order.length;
    }

    private static void answers(String what, Supplier<TinkerTrials> world, Call call, int[] given, int why) {
        if (why > 0) {
            Check.finds(what, world, x -> call.of(x, given), why);
        } else if (why < 0) {
            Check.refused(what, world, x -> call.of(x, given), why);
        } else {
            TinkerTrials x = world.get();
            int finding = x.finding();
            Check.due(what + " is taken", call.of(x, given) >= 0 ? 1 : 0, 1);
            Check.due(what + " finds nothing", x.finding(), finding);
        }
    }
}
