import java.io.IOException;
import java.lang.reflect.Method;
import java.nio.file.Files;
import java.nio.file.Path;
import java.util.regex.Matcher;
import java.util.regex.Pattern;

/** Every line of Java on README.md is a call with its answer behind it, and is answered so. */
public final class ReadmeTest {
    private static final Path PAGE = Path.of("README.md");
    private static final String NEW = "TinkerTrials x = new TinkerTrials();";
    private static final Pattern CALL = Pattern.compile("x\\.(\\w+)\\(([-\\d, ]*)\\); +// (-?\\d+)(: .+)?");

    private TinkerTrials x = null;

    private ReadmeTest() {
    }

    public static void main(String[] args) throws IOException, ReflectiveOperationException {
        ReadmeTest page = new ReadmeTest();
        boolean java = false;
        for (String line : Files.readAllLines(PAGE)) {
            if (line.startsWith("```")) {
                java = line.equals("```java");
            } else if (java && !line.isEmpty()) {
                page.take(line);
            }
        }
        Check.end("ReadmeTest");
    }

    private void take(String line) throws ReflectiveOperationException {
        Matcher call = CALL.matcher(line);
        if (line.equals(NEW)) {
            x = new TinkerTrials();
        } else if (x == null || !call.matches()) {
            Check.due("a call with its answer: " + line, 0, 1);
        } else {
            String[] words = call.group(2).isEmpty() ? new String[0] : call.group(2).split(", ");
            Method method = named(call.group(1), words.length);
            Check.due("a call of the face: " + line, method == null ? 0 : 1, 1);
            if (method != null) {
                Check.due(line, answer(method, words), Long.parseLong(call.group(3)));
            }
        }
    }

    private static Method named(String name, int many) {
        for (Method one : TinkerTrials.class.getMethods()) {
            if (one.getName().equals(name) && one.getParameterCount() == many) {
                return one;
            }
        }
        return null;
    }

    private long answer(Method method, String[] words) throws ReflectiveOperationException {
        Object[] given = new Object[words.length];
        for (int i = 0; i < given.length; i++) {
            boolean wide = method.getParameterTypes()[i] == long.class;
            given[i] = wide ? (Object) Long.valueOf(words[i]) : (Object) Integer.valueOf(words[i]);
        }
        return ((Number) method.invoke(x, given)).longValue();
    }
}
