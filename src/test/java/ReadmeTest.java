import java.io.IOException;
import java.lang.reflect.Method;
import java.nio.file.Files;
import java.nio.file.Path;
import java.util.List;
import java.util.Set;
import java.util.TreeSet;
import java.util.regex.Matcher;
import java.util.regex.Pattern;
import java.util.stream.Collectors;
import java.util.stream.Stream;

/** README.md holds for what lies here: its examples answer as it says, and it names all calls, answers and tests. */
public final class ReadmeTest {
    private static final String MADE = "WeatherChess x = new WeatherChess();";
    private static final Pattern CALL = Pattern.compile("x\\.(\\w+)\\((.*?)\\); +// (-?\\d+|[A-Z]+)(:.*)?");
    private static final Pattern TEST = Pattern.compile("`(\\w+Test)`");
    private static final Check CHECK = new Check("ReadmeTest");

    private static WeatherChess x;
    private static int calls;

    public static void main(String[] args) throws IOException, ReflectiveOperationException {
        List<String> page = Files.readAllLines(Path.of("README.md"));
        examples(page);
        answers(page);
        names(page);
        tests(page);
        CHECK.close();
    }

    private static void examples(List<String> page) throws ReflectiveOperationException {
        boolean isJava = false;
        for (String line : page) {
            if (line.startsWith("```")) isJava = line.equals("```java");
            else if (isJava) example(line);
        }
        CHECK.holds("examples of a new object, a text and its answers: " + calls, calls > 30 && calls <= 512);
    }

    private static void example(String line) throws ReflectiveOperationException {
        if (line.equals(MADE)) {
            x = new WeatherChess();
            return;
        }
        Matcher m = CALL.matcher(line);
        CHECK.holds("an object, a call and its answer: " + line, x != null && m.matches());
        if (x == null || !m.matches()) return;
        calls++;
        CHECK.due(line, answer(m.group(1), m.group(2)), number(m.group(3)));
    }

    private static long answer(String name, String told) throws ReflectiveOperationException {
        String[] words = told.isEmpty() ? new String[0] : told.split(", ");
        for (Method method : WeatherChess.class.getDeclaredMethods()) {
            if (!method.getName().equals(name)) continue;
            Class<?>[] types = method.getParameterTypes();
            if (types.length != words.length) continue;
            Object[] given = new Object[words.length];
            for (int i = 0; i < given.length; i++) given[i] = argument(types[i], words[i]);
            return ((Number) method.invoke(x, given)).longValue();
        }
        throw new IllegalStateException("README.md calls what there is not: " + name + "(" + told + ")");
    }

    private static Object argument(Class<?> type, String word) {
        if (type == boolean.class) return Boolean.valueOf(word);
        long v = number(word);
        if (type == long.class) return v;
        return (int) v;
    }

    private static long number(String word) {
        switch (word.replace("WeatherChess.", "")) {
            case "BAD": return WeatherChess.BAD;
            case "STATE": return WeatherChess.STATE;
            case "FULL": return WeatherChess.FULL;
            case "NONE": return WeatherChess.NONE;
            default: return Long.decode(word.replace("L", ""));
        }
    }

    private static void answers(List<String> page) {
        for (String name : List.of("BAD", "STATE", "FULL", "NONE")) {
            String row = "| `" + name + "` | " + number(name) + " | ";
            CHECK.holds(name + " is told", page.stream().anyMatch(line -> line.startsWith(row)));
            CHECK.holds(name + " is shown", page.stream().anyMatch(line -> line.matches("x\\..*// " + name + "\\b.*")));
        }
    }

    private static void names(List<String> page) {
        String all = String.join("\n", page);
        for (Method method : WeatherChess.class.getMethods()) {
            if (method.getDeclaringClass() != WeatherChess.class) continue;
            CHECK.holds(method.getName() + " is named", all.contains("`" + method.getName() + "`"));
        }
    }

    private static void tests(List<String> page) throws IOException {
        Set<String> told = new TreeSet<>();
        Matcher m = TEST.matcher(String.join("\n", page));
        while (m.find()) told.add(m.group(1));
        Set<String> here;
        try (Stream<Path> files = Files.list(Path.of("src/test/java"))) {
            here = files.map(file -> file.getFileName().toString()).filter(file -> file.endsWith("Test.java"))
                .map(file -> file.replace(".java", "")).collect(Collectors.toCollection(TreeSet::new));
        }
        CHECK.holds("tests told " + told + ", here " + here, told.equals(here));
        CHECK.holds("how to run them", page.contains("bash .ci/run"));
    }
}
