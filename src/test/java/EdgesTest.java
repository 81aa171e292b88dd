import java.lang.reflect.Method;

/** Every call with the edges of all numbers, in several worlds: none throws, and what it answers is one of its answers. */
public final class EdgesTest {
    private static final int[] EDGES = {Integer.MIN_VALUE, -1000001, -51, -1, 0, 1, 2, 3, 4, 5, 6, 11, 12, 16, 24, 25,
        31, 32, 51, 501, 1000001, Integer.MAX_VALUE - 1, Integer.MAX_VALUE};
    private static final int MOST_CALLS = 500;
    private static final int RANDOM_RUNS = 400;
    private static long drawn = 7;

    private EdgesTest() {
    }

    public static void main(String[] args) throws ReflectiveOperationException {
        for (Method method : TinkerTrials.class.getDeclaredMethods()) {
            if (method.getModifiers() == java.lang.reflect.Modifier.PUBLIC) {
                allEdges(method);
            }
        }
        for (int k = 0; k < RANDOM_RUNS; k++) {
            randomRun();
        }
        afterTheLastCall();
        Check.end("EdgesTest");
    }

    private static int draw(int below) {
        drawn = drawn * 6364136223846793005L + 1442695040888963407L;
        return (int) ((drawn >>> 33) % below);
    }

    private static TinkerTrials world(int k) {
        return k == 0 ? Worlds.empty() : k == 1 ? Worlds.mixed() : Worlds.full();
    }

    private static Object number(Class<?> type, int v) {
        return type == long.class ? (Object) Long.valueOf(v) : (Object) Integer.valueOf(v);
    }

    /** Up to three arguments go through all edges together, the ones behind them follow the first. */
    private static void allEdges(Method method) throws ReflectiveOperationException {
        Class<?>[] types = method.getParameterTypes();
        int ways = 1;
        for (int i = 0; i < types.length && i < 3; i++) {
            ways *= EDGES.length;
        }
        for (int w = 0; w < 3; w++) {
            TinkerTrials x = world(w);
            int calls = 0;
            for (int way = 0; way < ways; way++) {
                if (++calls > MOST_CALLS - 100) {
                    x = world(w);
                    calls = 0;
                }
                Object[] given = new Object[types.length];
                int rest = way;
                for (int i = 0; i < types.length; i++) {
                    given[i] = number(types[i], EDGES[(i < 3 ? rest : way + i) % EDGES.length]);
                    rest /= EDGES.length;
                }
                answered(method, method.invoke(x, given));
            }
        }
    }

    /** No answer of an int is below the greatest refusal; longs may be any. */
    private static void answered(Method method, Object answer) {
        if (answer instanceof Integer told) {
            int least = method.getName().equals("run") ? -1000004 : -9;
            Check.due(method.getName() + " answered " + told, told >= least || method.getName().equals("run")
                && told >= -25000 ? 1 : 0, 1);
        }
    }

    /** Calls by a seed, with small numbers that mostly fit. */
    private static void randomRun() throws ReflectiveOperationException {
        Method[] all = TinkerTrials.class.getDeclaredMethods();
        java.util.Arrays.sort(all, java.util.Comparator.comparing(Method::toString));
        TinkerTrials x = world(draw(3));
        for (int k = 0; k < MOST_CALLS; k++) {
            Method method = all[draw(all.length)];
            if (method.getModifiers() == java.lang.reflect.Modifier.PUBLIC) {
                Class<?>[] types = method.getParameterTypes();
                Object[] given = new Object[types.length];
                for (int i = 0; i < types.length; i++) {
                    given[i] = number(types[i], draw(12) == 0 ? EDGES[draw(EDGES.length)] : draw(7));
                }
                answered(method, method.invoke(x, given));
                Check.due("lower() is above 0", x.lower() > 0 ? 1 : 0, 1);
            }
        }
    }

    private static void afterTheLastCall() {
        TinkerTrials x = Worlds.full();
        for (int k = 0; k < 2000; k++) {
            x.work(k % 16);
            x.machine(0, 5);
            x.sheet(0, 24);
        }
        Check.due("machines stay 16", x.count(0), 16);
        Check.due("sheets stay 12", x.count(1), 12);
    }
}
