import java.lang.reflect.Constructor;
import java.lang.reflect.Field;
import java.lang.reflect.Method;
import java.lang.reflect.Modifier;
import java.nio.file.Files;
import java.nio.file.Path;
import java.util.Arrays;
import java.util.List;
import java.util.Random;
import java.util.Set;
import java.util.TreeSet;

/** The document's face, the rules of LANGUAGE.md that a look can tell, and calls with any arguments. */
public final class FaceTest {
    private static final Set<String> FACE = Set.of("int meeting 2", "int road 4", "int undo 0", "int alter 3",
        "int read 1", "int at 2", "int info 2", "int joined 2", "int along 3", "int stroke 2", "int rank 2", "int far 3",
        "int cut 3", "int bridges 1", "int detour 1", "int useful 1", "int sheet 3", "int lose 1", "int put 4",
        "int get 3", "int copy 5", "int write 1", "int count 1", "long digest 0");
    private static final Check CHECK = new Check();

    public static void main(String[] args) throws Exception {
        face();
        nested();
        source();
        anyArguments();
        CHECK.end();
    }

    private static void face() throws Exception {
        CHECK.holds("public and final", Modifier.isPublic(RoadStrokes.class.getModifiers())
            && Modifier.isFinal(RoadStrokes.class.getModifiers()));
        Constructor<?>[] made = RoadStrokes.class.getDeclaredConstructors();
        CHECK.holds("one public constructor", made.length == 1 && made[0].getParameterCount() == 0
            && Modifier.isPublic(made[0].getModifiers()));
        Set<String> seen = new TreeSet<>();
        Set<String> names = new TreeSet<>();
        for (Method m : RoadStrokes.class.getDeclaredMethods()) {
            if (!Modifier.isPrivate(m.getModifiers())) {
                seen.add(m.getReturnType() + " " + m.getName() + " " + m.getParameterCount());
                names.add(m.getName());
            }
        }
        CHECK.holds("just the methods of the document: " + seen, seen.equals(new TreeSet<>(FACE)));
        for (Method m : RoadStrokes.class.getDeclaredMethods()) {
            CHECK.holds("private method bears a public name: " + m,
                !Modifier.isPrivate(m.getModifiers()) || !names.contains(m.getName()));
        }
        Set<String> constants = new TreeSet<>();
        for (Field f : RoadStrokes.class.getDeclaredFields()) {
            if (!Modifier.isPrivate(f.getModifiers())) {
                constants.add(f.getName() + " " + f.get(null));
            }
            CHECK.holds("static and final: " + f,
                !Modifier.isStatic(f.getModifiers()) || Modifier.isFinal(f.getModifiers()));
        }
        CHECK.holds("just the constants of the document: " + constants,
            constants.equals(Set.of("NONE -1", "BAD -2", "NOT -3", "FULL -4")));
    }

    private static void nested() {
        Class<?>[] inside = RoadStrokes.class.getDeclaredClasses();
        CHECK.holds("some twelve classes at most", inside.length <= 11);
        Set<String> names = new TreeSet<>();
        for (Method m : RoadStrokes.class.getMethods()) {
            names.add(m.getName());
        }
        for (Class<?> c : inside) {
            CHECK.holds("static, not public: " + c, Modifier.isStatic(c.getModifiers())
                && !Modifier.isPublic(c.getModifiers()) && !Modifier.isProtected(c.getModifiers()));
            CHECK.holds("some twenty fields at most: " + c, c.getDeclaredFields().length <= 20);
            for (Method m : c.getDeclaredMethods()) {
                CHECK.holds("bears a public name: " + m, !names.contains(m.getName()));
                CHECK.holds("at most seven parameters: " + m, m.getParameterCount() <= 7);
            }
        }
    }

    private static void source() throws Exception {
        List<String> lines = Files.readAllLines(Path.of("src/main/java/RoadStrokes.java"));
        Set<String> banned = Set.of("throw", "throws", "try", "catch", "finally", "synchronized", "assert", "import",
            "package", "while", "do", "var", "volatile", "transient", "native", "yield");
        for (int i = 0; i < lines.size(); i++) {
            String line = lines.get(i);
            String code = line.trim().startsWith("*") || line.trim().startsWith("/") ? "" : line;
            for (String word : code.split("[^A-Za-z0-9_]+")) {
                CHECK.holds("line " + (i + 1) + " has no '" + word + "'", !banned.contains(word));
            }
            CHECK.holds("line " + (i + 1) + " has no lambda", !code.contains("->") && !code.contains("::"));
            // what a run makes is counted, so all is made with the object
            CHECK.holds("line " + (i + 1) + " makes nothing in a call", !code.contains("new ")
                || code.contains("final int[] ") || code.contains("final boolean[] ")
                || code.matches(" +(net|joins|strokes|ways|cutting|rows|rows\\[s\\]) = new [A-Z].*"));
        }
    }

    /** Refusals leave the digest as it was; nothing ever throws. */
    private static void anyArguments() throws Exception {
        int[] odd = {Integer.MIN_VALUE, Integer.MIN_VALUE + 1, -61, -1, 0, 1, 2, 3, 4, 7, 15, 16, 23, 24, 25, 30, 31, 32,
            59, 60, 61, 9999, 10000, Integer.MAX_VALUE - 1, Integer.MAX_VALUE};
        Method[] calls = Arrays.stream(RoadStrokes.class.getDeclaredMethods())
            .filter(m -> Modifier.isPublic(m.getModifiers()))
            .sorted((a, b) -> a.getName().compareTo(b.getName())).toArray(Method[]::new);
        for (int seed = 0; seed < 900; seed++) {
            Random random = new Random(seed);
            RoadStrokes x = new RoadStrokes();
            // with two digests each these are 510 calls
            for (int i = 0; i < 170; i++) {
                Method m = calls[random.nextInt(calls.length)];
                if (m.getName().equals("undo") && random.nextInt(4) != 0) {
                    continue;
                }
                Object[] with = new Object[m.getParameterCount()];
                for (int j = 0; j < with.length; j++) {
                    with[j] = random.nextInt(4) == 0 ? odd[random.nextInt(odd.length)] : random.nextInt(10);
                }
                ask(x, m, with);
            }
        }
    }

    private static void ask(RoadStrokes x, Method m, Object[] with) throws Exception {
        long before = x.digest();
        long answer = ((Number) m.invoke(x, with)).longValue();
        if (answer < -1 && answer >= -15 && !m.getName().equals("get")) {
            CHECK.due(m.getName() + Arrays.toString(with) + " changes nothing", x.digest(), before);
        }
    }
}
