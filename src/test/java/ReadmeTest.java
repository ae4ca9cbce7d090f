import java.io.IOException;
import java.lang.reflect.Method;
import java.lang.reflect.Modifier;
import java.nio.file.Files;
import java.nio.file.Path;
import java.util.Map;
import java.util.Set;
import java.util.TreeMap;
import java.util.TreeSet;
import java.util.regex.Matcher;
import java.util.regex.Pattern;
import java.util.stream.Stream;

/** README.md: the calls it shows answer as it says, and it names every call and every test. */
public final class ReadmeTest {
    private static final Pattern SHOWN = Pattern.compile("(?m)^yard\\.(\\w+)\\(([^)]*)\\);\\s+// (-?\\d+)\\b");
    private static final Pattern A_CALL = Pattern.compile("(?m)^yard\\.");
    private static final Pattern TOLD = Pattern.compile("(?m)^\\| `(\\w+)\\(([^)]*)\\)` \\|");

    private static int wrong = 0;

    private static void must(boolean holds, String what) {
        if (!holds) {
            wrong++;
            System.out.println(what);
        }
    }

    public static void main(String[] args) throws IOException, ReflectiveOperationException {
        String page = Files.readString(Path.of("README.md"));
        Map<String, Method> face = face();
        int shown = shownCalls(page, face);
        toldCalls(page, face);
        tests(page);
        System.out.println(wrong == 0 ? shown + " calls of README.md answer as it says" : wrong + " things are wrong");
        if (wrong != 0) System.exit(1);
    }

    private static Map<String, Method> face() {
        Map<String, Method> face = new TreeMap<>();
        for (Method m : StageYard.class.getDeclaredMethods()) {
            if (Modifier.isPublic(m.getModifiers())) face.put(m.getName(), m);
        }
        return face;
    }

    /** The example, line by line on one object: every call of the face stands in it at least once. */
    private static int shownCalls(String page, Map<String, Method> face) throws ReflectiveOperationException {
        StageYard yard = new StageYard();
        Set<String> seen = new TreeSet<>();
        int shown = 0;
        Matcher line = SHOWN.matcher(page);
        while (line.find()) {
            shown++;
            Method call = face.get(line.group(1));
            if (call == null || call.getParameterCount() != parts(line.group(2)).length) {
                must(false, "README.md shows a call that is none: " + line.group());
                continue;
            }
            Object got = call.invoke(yard, numbers(line.group(2)));
            must(got.equals(Integer.valueOf(line.group(3))), line.group() + " answered " + got);
            seen.add(call.getName());
        }
        must(shown == A_CALL.matcher(page).results().count(), "README.md shows a call without its answer");
        Set<String> missing = new TreeSet<>(face.keySet());
        missing.removeAll(seen);
        must(missing.isEmpty(), "README.md shows no call of " + missing);
        return shown;
    }

    private static void toldCalls(String page, Map<String, Method> face) {
        Set<String> told = new TreeSet<>();
        Matcher row = TOLD.matcher(page);
        while (row.find()) {
            Method call = face.get(row.group(1));
            must(call != null && call.getParameterCount() == parts(row.group(2)).length,
                "README.md tells a call that is none: " + row.group());
            must(told.add(row.group(1)), "README.md tells a call twice: " + row.group());
        }
        must(told.equals(face.keySet()), "README.md tells " + told + ", the face is " + face.keySet());
    }

    private static void tests(String page) throws IOException {
        try (Stream<Path> files = Files.list(Path.of("src/test/java"))) {
            for (Path file : files.sorted().toList()) {
                String name = file.getFileName().toString().replace(".java", "");
                must(page.contains("`" + name + "`"), "README.md doesn't name the test " + name);
            }
        }
        must(page.contains(".ci/run"), "README.md doesn't say how to run the tests");
    }

    private static String[] parts(String list) {
        return list.isEmpty() ? new String[0] : list.split(", ");
    }

    private static Object[] numbers(String list) {
        String[] parts = parts(list);
        Object[] numbers = new Object[parts.length];
        for (int i = 0; i < parts.length; i++) numbers[i] = Integer.valueOf(parts[i]);
        return numbers;
    }
}
