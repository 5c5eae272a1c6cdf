import java.io.IOException;
import java.lang.reflect.Modifier;
import java.nio.file.Files;
import java.nio.file.Path;
import java.util.Arrays;
import java.util.List;
import java.util.Set;
import java.util.TreeSet;
import java.util.regex.Matcher;
import java.util.regex.Pattern;
import java.util.stream.Stream;

/** README.md by its own words: its run of calls answers what stands there, and its tables leave nothing out. */
public final class ReadmeTest {
    private static final Path TESTS = Path.of("src/test/java");
    private static final Pattern FED = Pattern.compile("feed\\(x, \"(.*)\"\\);");
    private static final Pattern CALLED = Pattern.compile("x\\.(\\w+)\\((.*?)\\); +// (-?[0-9]+|throws \\w+)(: .*)?");
    private static final Pattern ENTRY = Pattern.compile("`(\\w+)\\(([^`]*)\\)`");

    private ReadmeTest() {
    }

    public static void main(String[] args) throws IOException {
        String page = Files.readString(Path.of("README.md"));
        List<String> blocks = Arrays.stream(page.split("```java\n")).skip(1).map(b -> b.substring(0, b.indexOf("```"))).toList();
        Check.due("blocks of Java", 2, blocks::size);
        String helpers = blank(Files.readString(TESTS.resolve("Check.java")));
        for (String helper : blocks.get(0).split("\n\n")) {
            Check.due("the tests feed likewise", true, helpers.contains(blank(helper)));
        }
        run(blocks.get(1));
        calls(page);
        tests(page);
        Check.end();
    }

    private static String blank(String code) {
        return code.replaceAll("\\s+", " ").trim();
    }

    private static void run(String block) {
        DayLaces x = new DayLaces();
        int fed = 0;
        for (String line : block.split("\n")) {
            Matcher text = FED.matcher(line);
            Matcher call = CALLED.matcher(line);
            if (text.matches()) {
                Check.feed(x, text.group(1));
                fed = text.group(1).length();
            } else if (call.matches()) {
                Object[] numbers = Arrays.stream(call.group(2).split(", ")).filter(n -> !n.isEmpty())
                    .map(Integer::valueOf).toArray();
                Check.due(line, Calls.answer(x, call.group(1), numbers), call.group(3).replace(' ', '.'));
                boolean reads = List.of("street", "law", "work", "book").contains(call.group(1));
                Check.due("the whole text is read: " + line, true, !reads || numbers[0].equals(fed));
            } else {
                Check.due("a line of the run", line, "DayLaces x = new DayLaces();");
            }
        }
    }

    /** Each call of the face stands once in the table, with as many parameters. */
    private static void calls(String page) {
        List<String> entries = page.lines().filter(l -> l.startsWith("| `")).map(l -> l.split(" \\| ")[0])
            .flatMap(l -> ENTRY.matcher(l).results())
            .map(m -> m.group(1) + " " + (m.group(2).isEmpty() ? 0 : m.group(2).split(", ").length)).sorted().toList();
        List<String> face = Stream.of(DayLaces.class.getDeclaredMethods())
            .filter(m -> Modifier.isPublic(m.getModifiers()))
            .map(m -> m.getName() + " " + m.getParameterCount()).sorted().toList();
        Check.due("calls in the table", entries.toString(), face.toString());
    }

    private static void tests(String page) throws IOException {
        Set<String> told = new TreeSet<>();
        Pattern.compile("(?m)^\\| `(\\w+Test)` ").matcher(page).results().forEach(m -> told.add(m.group(1)));
        Set<String> there = new TreeSet<>();
        try (Stream<Path> files = Files.list(TESTS)) {
            files.map(f -> f.getFileName().toString()).filter(f -> f.endsWith("Test.java"))
                .forEach(f -> there.add(f.replace(".java", "")));
        }
        Check.due("tests in the table", told.toString(), there.toString());
    }
}
