import java.io.IOException;
import java.lang.reflect.Method;
import java.lang.reflect.Modifier;
import java.nio.file.Files;
import java.nio.file.Path;
import java.util.List;
import java.util.Map;
import java.util.Set;
import java.util.TreeMap;
import java.util.TreeSet;
import java.util.regex.Matcher;
import java.util.regex.Pattern;
import java.util.stream.Collectors;
import java.util.stream.Stream;

/** README.md as a test: the calls of its Java blocks, one run after another, with the answers behind them. */
public final class ReadmeTest {
    private static final String BLOCK = "```java", FENCE = "```", MADE = "RoadStrokes x = new RoadStrokes();";
    private static final Pattern CALL =
        Pattern.compile("x\\.([a-z]+)\\(((?:-?\\d+(?:, -?\\d+)*)?)\\); +// (-?\\d+)(?:: .+)?");
    private static final Pattern TABLE_CALL = Pattern.compile("\\| `([a-z]+)\\(([a-z, ]*)\\)` \\|.*");
    private static final Pattern TABLE_TEST = Pattern.compile("\\| ([A-Za-z]+Test) \\|.*");
    private static final int MOST_CALLS = 512;
    private static final Check CHECK = new Check();

    private final Map<String, Method> face = new TreeMap<>();
    private final Set<String> shown = new TreeSet<>();
    private RoadStrokes x = null;
    private int calls = 0;

    public static void main(String[] args) throws Exception {
        List<String> lines = Files.readAllLines(Path.of("README.md"));
        ReadmeTest test = new ReadmeTest();
        test.blocks(lines);
        test.callsTable(lines);
        testsTable(lines);
        CHECK.end();
    }

    private ReadmeTest() {
        for (Method m : RoadStrokes.class.getDeclaredMethods()) {
            if (Modifier.isPublic(m.getModifiers())) {
                face.put(m.getName(), m);
            }
        }
    }

    private void blocks(List<String> lines) throws Exception {
        boolean inside = false;
        for (String line : lines) {
            if (line.startsWith(FENCE)) {
                inside = line.equals(BLOCK);
            } else if (inside) {
                statement(line);
            } else {
                CHECK.holds("a call with an answer stands in a Java block: " + line, !line.contains("x."));
            }
        }
        CHECK.holds("at most 512 calls", calls <= MOST_CALLS);
        CHECK.holds("each call is shown: " + shown, shown.equals(face.keySet()));
    }

    private void statement(String line) throws Exception {
        if (line.equals(MADE)) {
            x = new RoadStrokes();
            calls = 0;
            return;
        }
        Matcher call = CALL.matcher(line);
        boolean understood = call.matches() && face.containsKey(call.group(1)) && x != null;
        CHECK.holds("a call with its answer: " + line, understood);
        if (understood) {
            Object[] with = call.group(2).isEmpty() ? new Object[0]
                : Stream.of(call.group(2).split(", ")).map(Integer::valueOf).toArray();
            long got = ((Number) face.get(call.group(1)).invoke(x, with)).longValue();
            CHECK.due(line, got, Long.parseLong(call.group(3)));
            shown.add(call.group(1));
            calls++;
        }
    }

    private void callsTable(List<String> lines) {
        Set<String> told = new TreeSet<>();
        for (String line : lines) {
            Matcher row = TABLE_CALL.matcher(line);
            if (row.matches()) {
                int parameters = row.group(2).isEmpty() ? 0 : row.group(2).split(", ").length;
                told.add(row.group(1) + " " + parameters);
            }
        }
        Set<String> due = face.values().stream().map(m -> m.getName() + " " + m.getParameterCount())
            .collect(Collectors.toCollection(TreeSet::new));
        CHECK.holds("the table tells each call of the face: " + told, told.equals(due));
    }

    private static void testsTable(List<String> lines) throws IOException {
        Set<String> told = new TreeSet<>();
        for (String line : lines) {
            Matcher row = TABLE_TEST.matcher(line);
            if (row.matches()) {
                told.add(row.group(1) + ".java");
            }
        }
        try (Stream<Path> files = Files.list(Path.of("src/test/java"))) {
            Set<String> due = files.map(file -> file.getFileName().toString())
                .filter(name -> name.endsWith("Test.java")).collect(Collectors.toCollection(TreeSet::new));
            CHECK.holds("the table tells each test: " + told, told.equals(due));
        }
    }
}
