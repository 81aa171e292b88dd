import java.lang.reflect.Method;
import java.util.Map;
import java.util.TreeMap;

/**
 * The whole face at once: runs of calls drawn by a seed, each answer of the class held against that of `Model`, the
 * document written down a second time. Numbers mostly fit, or miss by one; some are far out.
 */
public final class ModelTest {
    private static final int RUNS = 600, MOST_CALLS = 512;
    private static final int[] FAR = {Integer.MIN_VALUE, -1000001, -51, 51, 501, 1000001, Integer.MAX_VALUE};

    /**
     * Each call with what its arguments are drawn from: m a machine, s a sheet (or one behind the last), t a state (or
     * one ahead of the first, or one behind), v what a sheet may cut, else the least and the greatest number. Calls
     * that make, set or tell what others depend on stand here more than once.
     */
    private static final String[] CALLS = {
        "share 0..8 1..9", "sheet -1..4 -1..25", "sheet 0..3 0..24", "tear s", "lay s -1..24 v", "lay s 0..9 -50..50",
        "lay s 0..9 0..1", "get s -1..24", "get s 0..5", "copy s -1..8 s -1..8 -1..8", "copy s 0..2 s 0..2 0..3",
        "machine -1..4 -1..6", "machine 0..3 1..5", "machine 0..1 1..5", "is m -1..4", "told m -1..3",
        "pay m t -51..51", "pay m t -2..2", "pay m t 49..50", "chance m t t 0..3", "chance m t t 0..3",
        "chance m t t -1..11", "chance m t t 0..1", "fill m s -1..20", "fill m s 0..4", "ask m t -1..6", "ask m t 0..3",
        "stand m t", "stand m t", "worth m t", "worth m t", "way m t -1..32", "way m t 0..31", "upper", "upper",
        "lower", "lower", "order m -1..6", "order m 0..4", "goes m t", "even m t -1000001..1000001 -1..1000001",
        "even m t -100..100 -1..9", "even m t -2..2 0..2", "better m t", "mean m t", "row m t", "row m t", "least m",
        "compare m t m t", "compare m t m t", "seed -1..2147483646", "best", "best", "work m", "work m", "run -1..501",
        "run 0..9", "run 0..9", "step -1..9", "step 195..202", "worked m", "paid", "fail m -1..3", "asked", "asked",
        "count -1..5", "finding", "findings 0..7", "digest"};
    private static final Map<String, Method> CLASS = methods(TinkerTrials.class);
    private static final Map<String, Method> MODEL = methods(Model.class);
    private static long drawn = 90125;

    private ModelTest() {
    }

    public static void main(String[] args) throws ReflectiveOperationException {
        for (String call : CALLS) {
            String name = call.split(" ")[0];
            Check.due(name + " is a call", CLASS.containsKey(name) && MODEL.containsKey(name) ? 1 : 0, 1);
        }
        Map<String, Integer> answered = new TreeMap<>();
        for (int k = 0; k < RUNS; k++) {
            oneRun(k, answered);
        }
        Check.due("calls of the face that were drawn", answered.keySet().stream().map(a -> a.split(" ")[0]).distinct()
            .count(), CLASS.size());
        allMet(answered);
        Check.end("ModelTest");
    }

    /** The drawn calls came to every refusal that a call has by the document. */
    private static void allMet(Map<String, Integer> answered) {
        String[] due = {"share -1", "sheet -1", "sheet -2", "sheet -3", "tear -1", "tear -3", "lay -1", "lay -3",
            "get -1", "get -3", "copy -1", "copy -3", "copy 1", "machine -1", "machine -2", "machine -3", "is -1",
            "told -1", "pay -1", "pay -3", "pay -4", "chance -1", "chance -3", "chance -4", "fill -1", "fill -3",
            "fill -4", "fill 5", "ask -1", "ask -3", "stand -1", "stand -3", "worth -1", "worth -3", "way -1", "way -3",
            "order -1", "order -9", "goes -1", "goes -3", "even -1", "even -3", "even 0", "even 1", "even 2",
            "better -1", "better -3", "mean -1", "mean -3", "row -1", "row -3", "row 5", "least -1", "compare -1",
            "compare -3", "compare 0", "compare 1", "compare 2", "seed -1", "best -9", "work -1", "run -1000000",
            "run -1000004", "step -9", "worked -1", "fail -1", "fail -3", "fail 2", "count -1", "findings -1"};
        for (String one : due) {
            Check.due("drawn at least once: " + one, answered.containsKey(one) ? 1 : 0, 1);
        }
    }

    private static Map<String, Method> methods(Class<?> of) {
        Map<String, Method> all = new TreeMap<>();
        for (Method one : of.getDeclaredMethods()) {
            if (!java.lang.reflect.Modifier.isPrivate(one.getModifiers())) {
                all.put(one.getName(), one);
            }
        }
        return all;
    }

    private static long draw(long below) {
        drawn = drawn * 6364136223846793005L + 1442695040888963407L;
        return (drawn >>> 20) % below;
    }

    private static void oneRun(int k, Map<String, Integer> answered) throws ReflectiveOperationException {
        TinkerTrials x = new TinkerTrials();
        Model y = new Model();
        int calls = k % 4 == 0 ? MOST_CALLS : 40 + (int) draw(200);
        for (int c = 0; c < calls; c++) {
            boolean early = c < 12 && draw(2) == 0;
            String call = early ? "machine 0..3 1..5" : CALLS[(int) draw(CALLS.length)];
            String[] words = call.split(" ");
            Method method = CLASS.get(words[0]);
            Object[] given = new Object[words.length - 1];
            StringBuilder text = new StringBuilder("run " + k + ", call " + c + ": " + words[0]);
            for (int i = 0; i < given.length; i++) {
                long v = number(words[i + 1], y);
                boolean wide = method.getParameterTypes()[i] == long.class;
                given[i] = wide ? (Object) Long.valueOf(v) : (Object) Integer.valueOf((int) v);
                text.append(' ').append(given[i]);
            }
            long got = ((Number) method.invoke(x, given)).longValue();
            Check.due(text.toString(), got, ((Number) MODEL.get(words[0]).invoke(y, given)).longValue());
            answered.merge(words[0] + " " + got, 1, Integer::sum);
        }
    }

    private static long number(String from, Model y) {
        if (draw(80) == 0) {
            return FAR[(int) draw(FAR.length)];
        }
        switch (from) {
            case "m": return drawNumber(y.machines());
            case "s": return drawNumber(y.sheets());
            case "t": return draw(20) == 0 ? -1 : draw(draw(6) == 0 ? 6 : 3);
            case "v": return draw(2) == 0 ? draw(600) - 300 : (draw(1L << 40) << 24) >> draw(60);
            default: break;
        }
        String[] ends = from.split("\\.\\.");
        long least = Long.parseLong(ends[0]);
        return least + draw(Long.parseLong(ends[1]) - least + 1);
    }

    /** Mostly one of those that there are. */
    private static long drawNumber(int many) {
        return draw(12) == 0 ? -1 : draw(Math.max(1, many + (draw(8) == 0 ? 1 : 0)));
    }
}
