import java.lang.reflect.Method;
import java.lang.reflect.Modifier;
import java.nio.charset.StandardCharsets;
import java.nio.file.Files;
import java.nio.file.Path;
import java.util.HashMap;
import java.util.Map;
import java.util.Set;
import java.util.TreeSet;
import java.util.regex.Matcher;
import java.util.regex.Pattern;

/** The calls that README.md shows, line by line: each answers the number that stands behind it. */
public final class ReadmeTest {
    private static final Path README = Path.of("README.md");
    private static final Pattern MADE = Pattern.compile("DoughRoom room = new DoughRoom\\(\\);");
    private static final Pattern CALL = Pattern.compile(
            "(?:int (\\w+) = )?room\\.(\\w+)\\(([^()]*)\\);\\s+// (-?\\w+): \\S.*");

    private static final Due due = new Due();

    private final Map<String, Integer> names = new HashMap<>();
    private final Set<String> shown = new TreeSet<>();
    private DoughRoom room;

    private ReadmeTest() {
        names.put("NONE", DoughRoom.NONE);
        names.put("BAD", DoughRoom.BAD);
        names.put("NO", DoughRoom.NO);
        names.put("FULL", DoughRoom.FULL);
    }

    public static void main(String[] args) throws Exception {
        ReadmeTest test = new ReadmeTest();
        boolean inside = false;
        for (String line : Files.readAllLines(README, StandardCharsets.UTF_8)) {
            if (line.startsWith("```")) {
                inside = line.equals("```java");
            } else if (inside && !line.isBlank()) {
                test.read(line);
            }
        }
        test.everyCallIsShown();
        due.end();
    }

    private void read(String line) throws Exception {
        Matcher call = CALL.matcher(line);
        if (MADE.matcher(line).matches()) {
            room = new DoughRoom();
        } else if (room == null || !call.matches()) {
            due.isTrue("README.md's line is a call with its answer: " + line, false);
        } else {
            int got = make(call.group(2), call.group(3));
            due.is("README.md: " + line, got, number(call.group(4)));
            if (call.group(1) != null) {
                names.put(call.group(1), got);
            }
        }
    }

    private int make(String name, String arguments) throws Exception {
        shown.add(name);
        String[] texts = arguments.isBlank() ? new String[0] : arguments.split(",\\s*");
        Class<?>[] types = new Class<?>[texts.length];
        Object[] numbers = new Object[texts.length];
        for (int i = 0; i < texts.length; i++) {
            types[i] = int.class;
            numbers[i] = number(texts[i]);
        }
        return (Integer) DoughRoom.class.getMethod(name, types).invoke(room, numbers);
    }

    private int number(String text) {
        return names.containsKey(text) ? names.get(text) : Integer.parseInt(text);
    }

    private void everyCallIsShown() {
        for (Method m : DoughRoom.class.getDeclaredMethods()) {
            if (Modifier.isPublic(m.getModifiers())) {
                due.isTrue("README.md shows " + m.getName() + "()", shown.contains(m.getName()));
            }
        }
    }
}
