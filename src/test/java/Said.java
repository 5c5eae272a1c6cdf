import java.io.IOException;
import java.nio.file.Files;
import java.nio.file.Path;
import java.util.LinkedHashMap;
import java.util.Map;
import java.util.regex.Matcher;
import java.util.regex.Pattern;

/**
 * Holds tests against the document: each names the words that it tries, these must stand there, and
 * in the end no words that tell of a boundary may be left that no test has named.
 */
final class Said {
    private static final Path DOCUMENT = Path.of("../shared/DOC.md");
    /** Numbers, and words by which the document tells of bounds, of nothing there, of what is refused. */
    private static final Pattern BOUNDARY = Pattern.compile("[0-9][0-9,]*[0-9]|[0-9]|NONE|REFUSED|FAULTS?\\b|\\w*Exception"
        + "|\\bat most|\\bat least|up to|wraps?\\b|empty|\\bnobody\\b|\\bnone\\b|\\bwithout\\b|\\bno other one|beyond"
        + "|\\btwice\\b|ahead of any|there are not|once more|all stays|nothing");

    /** By the heading's first words, "Terms" or "Promise 7": the section's text, blanks alike. */
    private static final Map<String, String> SECTIONS = new LinkedHashMap<>();
    private static final Map<String, boolean[]> NAMED = new LinkedHashMap<>();

    private Said() {
    }

    static void open() throws IOException {
        for (String part : Files.readString(DOCUMENT).split("\n## ")) {
            String heading = part.lines().findFirst().orElse("").replaceAll(":.*", "");
            String text = part.substring(part.indexOf('\n') + 1).replace("```text", " ").replace("```", " ")
                .replaceAll("(?m)^`[^`]*`: ", " ").replaceAll("==== [0-9]\\.", " ").replaceAll("\\s+", " ");
            SECTIONS.put(heading, text);
            NAMED.put(heading, new boolean[text.length()]);
        }
    }

    static void term(String words) {
        in("Terms", words);
    }

    static void promise(int number, String words) {
        in("Promise " + number, words);
    }

    static void in(String section, String words) {
        String text = SECTIONS.getOrDefault(section, "");
        int at = text.indexOf(words);
        Check.due(section + " says '" + words + "'", true, at >= 0);
        boolean[] named = NAMED.get(section);
        for (; at >= 0; at = text.indexOf(words, at + 1)) {
            for (int i = at; i < at + words.length(); i++) {
                named[i] = true;
            }
        }
    }

    /** Every boundary that the terms and the promises tell of stands within words that a test has named. */
    static void allNamed() {
        for (Map.Entry<String, String> section : SECTIONS.entrySet()) {
            String text = section.getValue();
            boolean tried = section.getKey().equals("Terms") || section.getKey().startsWith("Promise ");
            Matcher boundary = BOUNDARY.matcher(text);
            while (tried && boundary.find()) {
                String near = text.substring(Math.max(0, boundary.start() - 40), Math.min(text.length(), boundary.end() + 40));
                Check.due("a test for '" + boundary.group() + "' of " + section.getKey() + ", '.." + near + "..'", true,
                    NAMED.get(section.getKey())[boundary.start()]);
            }
        }
        Check.due("promises", 46, () -> SECTIONS.keySet().stream().filter(s -> s.startsWith("Promise ")).count());
    }
}
