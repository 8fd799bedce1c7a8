import java.io.IOException;
import java.lang.reflect.InvocationTargetException;
import java.lang.reflect.Method;
import java.nio.file.Files;
import java.nio.file.Path;
import java.util.HashMap;
import java.util.List;
import java.util.Map;
import java.util.Set;
import java.util.TreeSet;
import java.util.regex.Matcher;
import java.util.regex.Pattern;
import java.util.stream.Stream;

// README.md as it stands: its examples answer what they say, and it names each call and each test.
public final class ReadmeTest {
    private static final Path README = Path.of("README.md"), TESTS = Path.of("src/test/java");

    private static final Pattern MADE = Pattern.compile("LawRings (\\w+) = new LawRings\\(\\);");
    private static final Pattern CALL =
        Pattern.compile("(?:int (\\w+) = )?(\\w+)\\.(\\w+)\\(([^()]*)\\); +// ([\\w.-]+): .+");

    private static final Map<String, LawRings> objects = new HashMap<>();
    private static final Map<String, Integer> numbers = new HashMap<>();
    private static int wrong = 0;

    private static void wrong(String what) {
        wrong++;
        System.out.println(what);
    }

    public static void main(String[] args) throws Exception {
        List<String> lines = Files.readAllLines(README);
        int run = runExamples(lines);
        if (run == 0) wrong("there is no example");
        namesEachCall(String.join("\n", lines));
        namesEachTest(String.join("\n", lines));
        System.out.println(wrong == 0 ? run + " lines of example answer as README.md says"
            : wrong + " things are not as due");
        if (wrong != 0) System.exit(1);
    }

    private static int runExamples(List<String> lines) throws Exception {
        int run = 0;
        boolean inside = false;
        for (String line : lines) {
            if (line.startsWith("```")) {
                inside = line.equals("```java");
            } else if (inside && !line.isEmpty()) {
                runLine(line);
                run++;
            }
        }
        return run;
    }

    private static void runLine(String line) throws Exception {
        Matcher made = MADE.matcher(line);
        if (made.matches()) {
            objects.put(made.group(1), new LawRings());
            return;
        }
        Matcher call = CALL.matcher(line);
        if (!call.matches()) {
            wrong("a line that is neither an object nor a call with its answer: " + line);
            return;
        }
        long got = answer(objects.get(call.group(2)), call.group(3), call.group(4));
        if (got != valueOf(call.group(5))) wrong("answered " + got + ": " + line);
        if (call.group(1) != null) numbers.put(call.group(1), (int) got);
    }

    private static long answer(LawRings x, String name, String listed)
            throws IllegalAccessException, InvocationTargetException, NoSuchFieldException {
        String[] texts = listed.isEmpty() ? new String[0] : listed.split(", ");
        Object[] values = new Object[texts.length];
        for (int i = 0; i < texts.length; i++) values[i] = valueOf(texts[i]);
        return ((Number) called(name).invoke(x, values)).longValue();
    }

    private static Method called(String name) {
        for (Method m : LawRings.class.getMethods()) {
            if (m.getName().equals(name) && m.getDeclaringClass() == LawRings.class) return m;
        }
        throw new IllegalArgumentException("there is no call " + name);
    }

    private static int valueOf(String text) throws IllegalAccessException, NoSuchFieldException {
        if (numbers.containsKey(text)) return numbers.get(text);
        if (text.startsWith("LawRings.")) return LawRings.class.getField(text.substring(9)).getInt(null);
        return Integer.parseInt(text);
    }

    /** Each call has a line of its own in a table, with as many names as it takes numbers. */
    private static void namesEachCall(String text) {
        Set<String> listed = new TreeSet<>();
        Matcher row = Pattern.compile("(?m)^\\| `(\\w+)\\(([^)]*)\\)` \\|").matcher(text);
        while (row.find()) {
            int takes = row.group(2).isEmpty() ? 0 : row.group(2).split(", ").length;
            if (!listed.add(row.group(1) + " " + takes)) wrong(row.group(1) + " is named twice");
        }
        Set<String> face = new TreeSet<>();
        for (Method m : LawRings.class.getMethods()) {
            if (m.getDeclaringClass() == LawRings.class) face.add(m.getName() + " " + m.getParameterCount());
        }
        if (!listed.equals(face)) wrong("the calls named are " + listed + ", the face has " + face);
    }

    private static void namesEachTest(String text) throws IOException {
        Set<String> named = new TreeSet<>();
        Matcher name = Pattern.compile("(?m)^- `(\\w+)`: ").matcher(text);
        while (name.find()) named.add(name.group(1));
        Set<String> there = new TreeSet<>();
        try (Stream<Path> files = Files.list(TESTS)) {
            files.forEach(f -> there.add(f.getFileName().toString().replace(".java", "")));
        }
        if (!named.equals(there)) wrong("the tests named are " + named + ", there are " + there);
        if (!text.contains("\n.ci/run\n")) wrong("how to run the tests is not told");
    }
}
