import java.io.IOException;
import java.lang.reflect.Method;
import java.lang.reflect.Modifier;
import java.nio.file.DirectoryStream;
import java.nio.file.Files;
import java.nio.file.Path;
import java.util.HashMap;
import java.util.List;
import java.util.Map;
import java.util.Set;
import java.util.TreeSet;
import java.util.regex.Matcher;
import java.util.regex.Pattern;

/** README.md: each example answers as it says, and no call, finding or test is left out. */
public final class ReadmeTest {
    private static final List<String> FINDINGS =
            List.of("BEYOND", "FULL", "KIND", "NONE", "STATE", "MISSING", "SIZE");
    private static final String NEW_OBJECT = "ChairDance x = new ChairDance();";
    private static final Pattern EXAMPLE =
            Pattern.compile("x\\.(\\w+)\\(([^)]*)\\);\\s+// (-?\\d+|[A-Z]+)(: .*)?");
    private static final Pattern ROW = Pattern.compile("\\| `(\\w+)\\(([^)]*)\\)` \\| .+ \\|");
    private static final Pattern TEST_ROW = Pattern.compile("\\| `(\\w+Test)` \\| .+ \\|");

    private final List<String> lines;
    private final Map<String, Method> face = new HashMap<>();

    private ReadmeTest(List<String> lines) {
        this.lines = lines;
        for (Method m : ChairDance.class.getDeclaredMethods()) {
            if (Modifier.isPublic(m.getModifiers())) {
                face.put(m.getName(), m);
            }
        }
    }

    public static void main(String[] args) throws IOException, ReflectiveOperationException {
        ReadmeTest readme = new ReadmeTest(Files.readAllLines(Path.of("README.md")));
        readme.examples();
        readme.calls();
        readme.findings();
        readme.tests();
        Check.end();
    }

    private void examples() throws ReflectiveOperationException {
        Set<String> shown = new TreeSet<>();
        boolean isExample = false;
        ChairDance x = null;
        for (String line : lines) {
            if (line.startsWith("```")) {
                isExample = line.equals("```java");
                x = null;
            } else if (isExample && line.equals(NEW_OBJECT)) {
                x = new ChairDance();
            } else if (isExample) {
                Matcher m = EXAMPLE.matcher(line);
                boolean isCall = m.matches() && x != null && face.containsKey(m.group(1));
                Check.due("a call with its answer: " + line, isCall ? 1 : 0, 1);
                if (isCall) {
                    Check.due(line, answer(x, face.get(m.group(1)), m.group(2)), due(m.group(3)));
                    shown.add(m.group(1));
                }
            }
        }
        Check.due("calls that are shown in examples", shown.size(), face.size());
    }

    private static long answer(ChairDance x, Method call, String told) throws ReflectiveOperationException {
        String[] texts = told.isEmpty() ? new String[0] : told.split(", ");
        Object[] values = new Object[texts.length];
        for (int i = 0; i < texts.length; i++) {
            boolean isLong = i < call.getParameterCount() && call.getParameterTypes()[i] == long.class;
            values[i] = isLong ? (Object) Long.decode(texts[i]) : (Object) Integer.decode(texts[i]);
        }
        return ((Number) call.invoke(x, values)).longValue();
    }

    private static long due(String told) {
        int finding = FINDINGS.indexOf(told);
        return finding >= 0 ? Check.BEYOND - finding : Long.parseLong(told);
    }

    /** Each call of the face has one row, with as many arguments as it takes. */
    private void calls() {
        Map<String, Integer> rows = new HashMap<>();
        for (String line : lines) {
            Matcher m = ROW.matcher(line);
            if (m.matches()) {
                int many = m.group(2).isEmpty() ? 0 : m.group(2).split(", ").length;
                Check.due("one row of " + m.group(1), rows.put(m.group(1), many) == null ? 1 : 0, 1);
            }
        }
        Check.due("rows of calls", rows.size(), face.size());
        for (Method m : face.values()) {
            Check.due("arguments of " + m.getName(), rows.getOrDefault(m.getName(), -1), m.getParameterCount());
        }
    }

    private void findings() {
        for (int i = 0; i < FINDINGS.size(); i++) {
            String row = "| " + FINDINGS.get(i) + " | " + (Check.BEYOND - i) + " | " + i + " | ";
            Check.due("row " + row, lines.stream().filter(line -> line.startsWith(row)).count(), 1);
        }
    }

    private void tests() throws IOException {
        Set<String> told = new TreeSet<>();
        for (String line : lines) {
            Matcher m = TEST_ROW.matcher(line);
            if (m.matches()) {
                told.add(m.group(1));
            }
        }
        Set<String> there = new TreeSet<>();
        try (DirectoryStream<Path> files = Files.newDirectoryStream(Path.of("src/test/java"), "*Test.java")) {
            for (Path file : files) {
                there.add(file.getFileName().toString().replace(".java", ""));
            }
        }
        if (!told.equals(there)) {
            Check.due("tests told: " + told + ", there: " + there, 1, 0);
        }
    }
}
