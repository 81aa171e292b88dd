import java.io.IOException;
import java.nio.file.Files;
import java.nio.file.Path;
import java.util.List;
import java.util.regex.Matcher;
import java.util.regex.Pattern;

/** Rules of LANGUAGE.md that can be seen in the text of the class; it is run from the project's folder. */
public final class LanguageTest {
    private static final Path SOURCE = Path.of("src", "main", "java", "TinkerTrials.java");
    private static final int MOST_LINES = 60, MOST_CLASSES = 12, MOST_FIELDS = 20;

    private LanguageTest() {
    }

    public static void main(String[] args) throws IOException {
        String text = Files.readString(SOURCE);
        Check.due("signs above 126", text.chars().filter(c -> c > 126).count(), 0);
        String code = text.replaceAll("(?s)/\\*.*?\\*/", "").replaceAll("//[^\n]*", "");
        words(code);
        libraries(code);
        statics(code);
        lengths(text);
        fields();
        Check.end("LanguageTest");
    }

    private static int count(String code, String pattern) {
        Matcher found = Pattern.compile(pattern).matcher(code);
        int times = 0;
        while (found.find()) {
            times++;
        }
        return times;
    }

    private static void words(String code) {
        List<String> none = List.of("package", "import", "throw", "throws", "try", "catch", "finally", "synchronized",
            "assert", "volatile", "native", "transient", "protected", "Object", "equals", "hashCode", "toString",
            "random", "currentTimeMillis", "nanoTime", "Thread", "File");
        for (String word : none) {
            Check.due("the word " + word, count(code, "\\b" + word + "\\b"), 0);
        }
        Check.due("lambdas", count(code, "->"), 0);
        Check.due("references to methods", count(code, "::"), 0);
        Check.due("marks", count(code, "@"), 0);
        Check.due("exact functions", count(code, "Exact\\b"), 0);
        Check.due("texts", count(code, "\""), 0);
    }

    private static void libraries(String code) {
        Matcher found = Pattern.compile("\\b(System|Math|Arrays|Integer|Long)\\.(\\w+)").matcher(code);
        List<String> known = List.of("System.arraycopy", "Math.max", "Math.min", "Math.abs", "Math.floorDiv");
        while (found.find()) {
            Check.due("known: " + found.group(), known.contains(found.group()) ? 1 : 0, 1);
        }
    }

    private static void statics(String code) {
        Check.due("static initialisers", count(code, "\\bstatic\\s*\\{"), 0);
        Matcher found = Pattern.compile("\\bstatic\\b([^;({]*)[=;]").matcher(code);
        while (found.find()) {
            Check.due("final: " + found.group(), found.group(1).contains("final") ? 1 : 0, 1);
        }
        Check.due("endless loops", count(code, "while\\s*\\(\\s*true|for\\s*\\(\\s*;\\s*;"), 0);
        Check.due("while loops", count(code, "\\bwhile\\b"), 0);
    }

    /** Methods stay short: from a line that opens one to the line that closes it at the same depth. */
    private static void lengths(String text) {
        String[] lines = text.split("\n");
        for (int i = 0; i < lines.length; i++) {
            if (lines[i].matches("( {4}| {8})(public|private|static|[A-Za-z\\[\\]]+) .*\\) \\{")) {
                String close = lines[i].replaceAll("\\S.*", "") + "}";
                int end = i;
                while (end < lines.length && !lines[end].equals(close)) {
                    end++;
                }
                Check.due(lines[i].trim() + " is short", end - i <= MOST_LINES ? 1 : 0, 1);
                Check.due(lines[i].trim() + " takes at most seven", count(lines[i], ",") <= 6 ? 1 : 0, 1);
            }
        }
    }

    private static void fields() {
        Class<?>[] inside = TinkerTrials.class.getDeclaredClasses();
        Check.due("classes", inside.length < MOST_CLASSES ? 1 : 0, 1);
        own(TinkerTrials.class);
        for (Class<?> one : inside) {
            own(one);
        }
    }

    private static void own(Class<?> one) {
        int fields = 0;
        for (java.lang.reflect.Field field : one.getDeclaredFields()) {
            if (!java.lang.reflect.Modifier.isStatic(field.getModifiers())) {
                fields++;
            }
        }
        Check.due("fields of " + one.getName(), fields <= MOST_FIELDS ? 1 : 0, 1);
    }
}
