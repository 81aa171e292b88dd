import java.lang.reflect.Constructor;
import java.lang.reflect.Field;
import java.lang.reflect.Method;
import java.lang.reflect.Modifier;
import java.util.Set;
import java.util.TreeSet;

/** The public face: what the document has, and nothing else. */
public final class FaceTest {
    private static final String[] FACE = {
        "int share(int,int)", "int sheet(int,int)", "int tear(int)", "int lay(int,int,long)", "int get(int,int)",
        "int copy(int,int,int,int,int)", "int machine(int,int)", "int is(int,int)", "int told(int,int)",
        "int pay(int,int,int)", "int chance(int,int,int,int)", "int fill(int,int,int)", "int ask(int,int,int)",
        "int stand(int,int)", "int worth(int,int)", "int way(int,int,int)", "long upper()", "long lower()",
        "int order(int,int)", "int goes(int,int)", "int even(int,int,int,int)", "int better(int,int)",
        "int mean(int,int)", "int row(int,int)", "int least(int)", "int compare(int,int,int,int)", "int seed(int)",
        "int best()", "int work(int)", "int run(int)", "int step(int)", "int worked(int)", "long paid()",
        "int fail(int,int)", "long asked()", "int count(int)", "int finding()", "int findings(int)", "long digest()"};

    private FaceTest() {
    }

    public static void main(String[] args) {
        constants();
        methods();
        constructor();
        classesInside();
        Check.end("FaceTest");
    }

    private static void same(String what, Set<String> got, Set<String> want) {
        if (!got.equals(want)) {
            System.out.println("  " + what + ": there is " + got + ", due is " + want);
        }
        Check.due(what, got.equals(want) ? 1 : 0, 1);
    }

    private static void constants() {
        Check.due("BAD", TinkerTrials.BAD, -1);
        Check.due("FULL", TinkerTrials.FULL, -2);
        Check.due("FINDING", TinkerTrials.FINDING, -3);
        Check.due("STATE", TinkerTrials.STATE, -4);
        Check.due("NONE", TinkerTrials.NONE, -9);
        Set<String> seen = new TreeSet<>();
        for (Field field : TinkerTrials.class.getDeclaredFields()) {
            if (!Modifier.isPrivate(field.getModifiers())) {
                seen.add(Modifier.toString(field.getModifiers()) + " " + field.getType() + " " + field.getName());
            }
        }
        Set<String> due = new TreeSet<>();
        for (String name : new String[] {"BAD", "FULL", "FINDING", "STATE", "NONE"}) {
            due.add("public static final int " + name);
        }
        same("constants", seen, due);
    }

    private static void methods() {
        Set<String> seen = new TreeSet<>();
        Set<String> hidden = new TreeSet<>();
        Set<String> open = new TreeSet<>();
        for (Method method : TinkerTrials.class.getDeclaredMethods()) {
            if (Modifier.isPrivate(method.getModifiers())) {
                hidden.add(method.getName());
            } else {
                open.add(method.getName());
                StringBuilder types = new StringBuilder();
                for (Class<?> type : method.getParameterTypes()) {
                    types.append(types.length() == 0 ? "" : ",").append(type.getName());
                }
                String shape = method.getReturnType().getName() + " " + method.getName() + "(" + types + ")";
                seen.add(method.getModifiers() == Modifier.PUBLIC ? shape : method.toString());
            }
        }
        same("methods", seen, new TreeSet<>(Set.of(FACE)));
        hidden.retainAll(open);
        same("private methods with the name of a public one", hidden, new TreeSet<>());
    }

    private static void constructor() {
        Check.due("the class is public and final", TinkerTrials.class.getModifiers(),
            Modifier.PUBLIC | Modifier.FINAL);
        Constructor<?>[] all = TinkerTrials.class.getDeclaredConstructors();
        Check.due("constructors", all.length, 1);
        Check.due("it is public", all[0].getModifiers(), Modifier.PUBLIC);
        Check.due("it takes nothing", all[0].getParameterCount(), 0);
    }

    private static void classesInside() {
        for (Class<?> inside : TinkerTrials.class.getDeclaredClasses()) {
            int shape = inside.getModifiers();
            Check.due(inside.getName() + " is static", Modifier.isStatic(shape) ? 1 : 0, 1);
            Check.due(inside.getName() + " is hidden",
                Modifier.isPublic(shape) || Modifier.isProtected(shape) ? 1 : 0, 0);
        }
    }
}
