import java.io.IOException;
import java.nio.file.Files;
import java.nio.file.Path;
import java.util.LinkedHashMap;
import java.util.Map;

/**
 * The document's 'Terms' and promises, gone through sentence by sentence: each is named with the calls that it
 * speaks of, or as one without a bound. What stands in the document and was not named is wrong in the end, so
 * no sentence is left without a test.
 */
final class Sentences {
    private static final Path DOCUMENT = Path.of("..", "shared", "DOC.md");
    private static final Map<String, Section> SECTIONS = new LinkedHashMap<>();
    private static String now = "";

    /** A section's text in one line, and which of its signs were named. */
    private static final class Section {
        private final StringBuilder text = new StringBuilder();
        private boolean[] named = new boolean[0];
    }

    private Sentences() {
    }

    static void read() throws IOException {
        Section at = null;
        for (String line : Files.readAllLines(DOCUMENT)) {
            if (line.startsWith("## ")) {
                String head = line.substring(3).replaceAll(":.*", "");
                at = head.equals("Terms") || head.startsWith("Promise ") ? new Section() : null;
                if (at != null) {
                    SECTIONS.put(head, at);
                }
            } else if (at != null && !line.startsWith("```")) {
                at.text.append(line.trim()).append(' ');
            }
        }
        for (Section one : SECTIONS.values()) {
            String text = one.text.toString().replaceAll("\\s+", " ");
            one.text.setLength(0);
            one.text.append(text);
            one.named = new boolean[text.length()];
        }
        Check.due("sections of the document", SECTIONS.size(), 41);
    }

    static void terms() {
        now = "Terms";
    }

    static void promise(int number, String signature) {
        now = "Promise " + number;
        plain("`" + signature + "`:");
    }

    /** A sentence that names a boundary case, and the calls that it speaks of. */
    static void bound(String words, Runnable calls) {
        name(words);
        Check.about(now + ": " + words);
        int before = Check.looked();
        calls.run();
        Check.due("a sentence's own looks", Check.looked() > before ? 1 : 0, 1);
        Check.about("");
    }

    /** A sentence that names no boundary case. */
    static void plain(String words) {
        name(words);
    }

    private static void name(String words) {
        Section one = SECTIONS.get(now);
        int at = one == null ? -1 : one.text.indexOf(words);
        while (at >= 0 && one.named[at]) {
            at = one.text.indexOf(words, at + 1);
        }
        Check.due(now + " says '" + words + "'", at >= 0 ? 1 : 0, 1);
        for (int i = 0; at >= 0 && i < words.length(); i++) {
            one.named[at + i] = true;
        }
    }

    /** Looks for what was not named. */
    static void end() {
        for (Map.Entry<String, Section> entry : SECTIONS.entrySet()) {
            Section one = entry.getValue();
            StringBuilder left = new StringBuilder();
            for (int i = 0; i < one.named.length; i++) {
                left.append(one.named[i] ? ' ' : one.text.charAt(i));
            }
            String rest = left.toString().replaceAll("\\s+", " ").trim();
            if (rest.matches(".*[A-Za-z0-9].*")) {
                System.out.println("  " + entry.getKey() + " has sentences without a test: " + rest);
                Check.due(entry.getKey() + ": sentences without a test", 1, 0);
            }
        }
    }
}
