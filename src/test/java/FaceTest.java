import java.io.IOException;
import java.lang.reflect.Constructor;
import java.lang.reflect.Field;
import java.lang.reflect.Method;
import java.lang.reflect.Modifier;
import java.nio.file.Files;
import java.nio.file.Path;
import java.util.ArrayList;
import java.util.Arrays;
import java.util.List;
import java.util.Set;
import java.util.TreeSet;
import java.util.regex.Matcher;
import java.util.regex.Pattern;

/** The public face as the document prints it, and the rules of LANGUAGE.md that can be seen from outside. */
public final class FaceTest {
    private static final Path SOURCE = Path.of("src/main/java/DayLaces.java");
    private static final Path DOCUMENT = Path.of("../shared/DOC.md");
    private static final Pattern PRINTED =
        Pattern.compile(" +public (int|long|boolean) (\\w+)\\((.*)\\)(?: throws (.*))?;");
    private static final String[] FACE = {
        "int feed(int, int, int, int, int)",
        "int street(int) IllegalArgumentException",
        "int law(int) IllegalArgumentException",
        "int work(int) IllegalArgumentException",
        "int book(int) IllegalArgumentException",
        "int fault()",
        "int undo()",
        "int told(int) IllegalArgumentException",
        "int person(int, int) NoSuchElementException, IllegalArgumentException",
        "int hold(int, int, int) NoSuchElementException, IllegalArgumentException",
        "int would(int, int, int, int, int, int, int, int) IllegalArgumentException",
        "boolean can(int, int) NoSuchElementException",
        "int ahead(int, int) IllegalArgumentException",
        "int catches(int) NoSuchElementException",
        "int far(int, int) NoSuchElementException",
        "int round(int, int) NoSuchElementException, IllegalArgumentException",
        "int kneel(int) IllegalArgumentException",
        "int kneels(int) NoSuchElementException",
        "int ring(int, int) NoSuchElementException, IllegalArgumentException",
        "int fits(int) IllegalArgumentException",
        "int look(int) IllegalArgumentException",
        "int soldier(int, int, int) IllegalArgumentException",
        "long dry(int, int, int, int) IllegalArgumentException",
        "int share(int, int, int) NoSuchElementException, IllegalArgumentException",
        "int slowest(int) IllegalArgumentException",
        "int helpers(int) NoSuchElementException",
        "int tied(int) NoSuchElementException",
        "int within(int) IllegalArgumentException",
        "int days()",
        "int kin(int) NoSuchElementException",
        "int steady()",
        "int best(int) NoSuchElementException",
        "int gap(int, int) NoSuchElementException",
        "int nearest(int) NoSuchElementException",
        "int later(int, int) NoSuchElementException, IllegalArgumentException",
        "int loose()",
        "int farthest(int) IllegalArgumentException",
        "int mates(int) NoSuchElementException",
        "int middle(int) IllegalArgumentException",
        "int week(int, int, int, int) IllegalArgumentException",
        "int span(int, int, int, int, int, int) IllegalArgumentException",
        "int image()",
        "int restore()",
        "int status(int)",
        "int count(int)"};
    /** A field's own row, what is thrown, or a line of the constructor, which alone assigns by a plain name. */
    private static final String MADE = " +(private )?final \\w+\\[\\] \\w+ = new .*| +throw new .*"
        + "|        ([A-Z]\\w+ )?[a-z]\\w* = new .*";
    private static final String[] OUTSIDE = {"->", "::", "catch (", "finally", "try ", "synchronized", "assert", "Exact(",
        "System.out", "Integer.MAX", "Integer.MIN", "static {", "String.", "Object", "hashCode", "toString",
        "getMessage", "while (true)", "for (;;)"};

    private FaceTest() {
    }

    public static void main(String[] args) throws IOException {
        Check.due("NONE", -1, () -> DayLaces.NONE);
        Check.due("the class is final", true, Modifier.isFinal(DayLaces.class.getModifiers()));
        face();
        document();
        members();
        inside();
        source();
        Check.end();
    }

    private static String names(Class<?>[] types) {
        return String.join(", ", Arrays.stream(types).map(Class::getSimpleName).toList());
    }

    private static void face() {
        Set<String> found = new TreeSet<>();
        for (Method m : DayLaces.class.getDeclaredMethods()) {
            if (!Modifier.isPrivate(m.getModifiers())) {
                String thrown = names(m.getExceptionTypes());
                found.add(m.getReturnType() + " " + m.getName() + "(" + names(m.getParameterTypes()) + ")"
                    + (thrown.isEmpty() ? "" : " " + thrown));
            }
        }
        Check.due("the face", found.toString(), new TreeSet<>(Arrays.asList(FACE)).toString());
        List<String> made = new ArrayList<>();
        for (Constructor<?> c : DayLaces.class.getDeclaredConstructors()) {
            made.add(Modifier.toString(c.getModifiers()) + "(" + names(c.getParameterTypes()) + ")");
        }
        Check.due("constructors", made.toString(), "[public()]");
    }

    /** The rows above are those that the document prints. */
    private static void document() throws IOException {
        Set<String> printed = new TreeSet<>();
        for (String line : Files.readAllLines(DOCUMENT)) {
            Matcher m = PRINTED.matcher(line);
            if (m.matches()) {
                String thrown = m.group(4) == null ? "" : " " + m.group(4);
                printed.add(m.group(1) + " " + m.group(2) + "(" + m.group(3).replaceAll("(int) \\w+", "$1") + ")" + thrown);
            }
        }
        Check.due("the document's face", printed.toString(), new TreeSet<>(Arrays.asList(FACE)).toString());
    }

    private static void members() {
        Set<String> open = new TreeSet<>();
        for (Method m : DayLaces.class.getMethods()) {
            open.add(m.getName());
        }
        List<Class<?>> all = new ArrayList<>(List.of(DayLaces.class.getDeclaredClasses()));
        all.add(DayLaces.class);
        Check.due("some twelve classes", true, all.size() <= 12);
        for (Class<?> c : all) {
            int fields = 0;
            for (Field f : c.getDeclaredFields()) {
                boolean isStatic = Modifier.isStatic(f.getModifiers());
                fields += isStatic ? 0 : 1;
                Check.due("static is final: " + f, true, !isStatic || Modifier.isFinal(f.getModifiers()));
                Check.due("no open field: " + f, true,
                    c != DayLaces.class || f.getName().equals("NONE") || Modifier.isPrivate(f.getModifiers()));
            }
            Check.due("some twenty fields: " + c, true, fields <= 20);
            for (Method m : c.getDeclaredMethods()) {
                Check.due("no name of the face: " + m, true,
                    c == DayLaces.class && Modifier.isPublic(m.getModifiers()) || !open.contains(m.getName()));
                Check.due("seven parameters: " + m, true, m.getParameterCount() <= 7 || m.getName().equals("would"));
            }
        }
    }

    private static void inside() {
        for (Class<?> c : DayLaces.class.getDeclaredClasses()) {
            Check.due("private and static: " + c, true,
                Modifier.isStatic(c.getModifiers()) && Modifier.isPrivate(c.getModifiers()));
        }
    }

    private static void source() throws IOException {
        List<String> lines = Files.readAllLines(SOURCE);
        for (int i = 0; i < lines.size(); i++) {
            String line = lines.get(i);
            String code = line.replaceAll("^ *(/?\\*|//).*", "");
            for (String out : OUTSIDE) {
                Check.due("line " + (i + 1) + " is without " + out, false, code.contains(out));
            }
            Check.due("line " + (i + 1) + " makes nothing but a row, a part or what it throws", true,
                !code.contains("new ") || code.matches(MADE));
            Check.due("line " + (i + 1) + " imports", true,
                !line.startsWith("import") || line.equals("import java.util.NoSuchElementException;"));
        }
        methodsAreShort(lines, "    ");
        methodsAreShort(lines, "        ");
    }

    /** Methods of one depth: from a head with a parameter list to the brace below it. */
    private static void methodsAreShort(List<String> lines, String indent) {
        int head = -1;
        for (int i = 0; i < lines.size(); i++) {
            String line = lines.get(i);
            if (line.matches(indent + "[A-Za-z].*\\(.*") && !line.contains(";")) {
                head = i;
            }
            if (line.equals(indent + "}") && head >= 0) {
                Check.due("lines of the method at " + (head + 1), true, i - head < 60);
                head = -1;
            }
        }
    }
}
