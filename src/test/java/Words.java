import java.io.IOException;
import java.nio.file.Files;
import java.nio.file.Path;
import java.util.LinkedHashMap;
import java.util.Map;

/**
 * The document's own words: each test quotes the words that it is of, so that a test of words which are not
 * there, words without a test, and a quote without an answer behind it are all found.
 */
final class Words {
    private static final Path DOCUMENT = Path.of("..", "shared", "DOC.md");
    static final String BEHIND = "Behind the terms";

    private final Checks checks;
    private final Map<String, StringBuilder> sections = new LinkedHashMap<>();
    private final Map<String, boolean[]> quoted = new LinkedHashMap<>();
    private String latest;
    private int doneBefore;

    Words(Checks checks) {
        this.checks = checks;
        try {
            cut(Files.readString(DOCUMENT));
        } catch (IOException e) {
            System.out.println("words: " + DOCUMENT + " is not here, so its words are not looked at");
        }
        sections.forEach((name, text) -> quoted.put(name, new boolean[text.length()]));
    }

    private void cut(String document) {
        String name = "";
        for (String line : document.split("\n")) {
            if (line.startsWith("## ")) {
                name = line.substring(3).replaceAll(":.*", "");
            } else if (line.startsWith("All memory")) {
                name = BEHIND;
            } else if (name.startsWith("Term") && line.matches("[0-9]\\. .*")) {
                name = "Term " + line.charAt(0);
                line = line.substring(3);
            }
            if (!line.startsWith("## ") && !line.startsWith("```")) {
                String plain = line.replaceFirst("^`[^`]*`: ", "").trim().replaceAll("\\s+", " ");
                sections.computeIfAbsent(name, k -> new StringBuilder()).append(plain).append(' ');
            }
        }
    }

    /** What comes now tests these words of the document. */
    void says(String section, String words) {
        endQuote();
        latest = section + ": " + words;
        checks.name(latest);
        StringBuilder text = sections.get(section);
        if (sections.isEmpty()) {
            return;
        }
        int from = text == null ? -1 : text.indexOf(words);
        if (from < 0) {
            System.out.println("words: the document has no such words: " + latest);
            checks.yes("these words stand in the document", false);
            return;
        }
        for (int i = from; i < from + words.length(); i++) {
            quoted.get(section)[i] = true;
        }
    }

    private void endQuote() {
        if (latest != null) {
            checks.yes("there is a test of these words", checks.done() > doneBefore);
        }
        doneBefore = checks.done();
    }

    /** All words of what it is, of the terms, of what stands behind them and of the promises are quoted. */
    void close() {
        endQuote();
        checks.name("words");
        for (Map.Entry<String, StringBuilder> e : sections.entrySet()) {
            if (e.getKey().matches("What it is|(Term|Promise) [0-9]+|" + BEHIND)) {
                allQuoted(e.getKey(), e.getValue(), quoted.get(e.getKey()));
            }
        }
    }

    private void allQuoted(String name, StringBuilder text, boolean[] marks) {
        int i = 0;
        while (i < marks.length) {
            int start = i;
            while (i < marks.length && !marks[i]) {
                i++;
            }
            String bare = text.substring(start, i);
            checks.yes(name + " has words without a test: " + bare, !bare.matches(".*[A-Za-z0-9].*"));
            while (i < marks.length && marks[i]) {
                i++;
            }
        }
    }
}
