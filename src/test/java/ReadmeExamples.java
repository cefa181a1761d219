import java.lang.reflect.Method;
import java.lang.reflect.Modifier;
import java.net.URL;
import java.net.URLClassLoader;
import java.nio.file.Files;
import java.nio.file.Path;
import java.util.ArrayList;
import java.util.List;
import java.util.Map;
import java.util.TreeMap;
import java.util.regex.Matcher;
import java.util.regex.Pattern;
import javax.tools.ToolProvider;

/** README.md: each example answers what it shows, and the table has each call as the document tells it. */
public final class ReadmeExamples extends Trial {
    private static final Pattern BLOCK = Pattern.compile("(?ms)^```java\n(.*?)^```$");
    private static final Pattern SHOWN = Pattern.compile("(?:(?:int|long) (\\w+) = )?(words\\.\\w+\\(.*?\\)); +// (-?[0-9]+): .+");
    private static final Pattern ROW = Pattern.compile("(?m)^\\| `(\\w+)\\(([^)]*)\\)` \\| ([^|]+) \\|([^|]*)\\|([^|]*)\\|$");
    private static final Pattern PROMISE = Pattern.compile("(?ms)^## Promise [0-9]+: (\\w+)\n(.*?)(?=^## )");
    private static final Pattern REFUSAL = Pattern.compile("[.;:] (BAD|NO|FULL)(?=[:;.])");
    private static final Pattern MARK = Pattern.compile("[.;:] U(?=[. ])");
    private static int shown = 0;

    private static String quoted(String code) {
        return "\"" + code.replace("\\", "\\\\").replace("\"", "\\\"") + "\"";
    }

    /** One line of an example as it stands, with a test of the answer behind it. */
    private static String tested(String line) {
        Matcher m = SHOWN.matcher(line);
        if (!m.matches()) {
            due("it is shown what '" + line + "' answers", line.matches("(int|long|words)\\b.*") ? 0 : 1, 1);
            return line;
        }
        shown++;
        String code = line.substring(0, line.indexOf("; ") + 1);
        String value = m.group(1) == null ? m.group(2) : m.group(1);
        String kept = m.group(1) == null ? "" : code + " ";
        return kept + "ReadmeExamples.answered(" + quoted("README.md: " + code) + ", " + value + ", " + m.group(3) + "L);";
    }

    private static String program(String readme) {
        StringBuilder program = new StringBuilder("public final class Shown implements Runnable {\npublic void run() {\n");
        Matcher block = BLOCK.matcher(readme);
        while (block.find()) {
            program.append("{\n");
            for (String line : block.group(1).split("\n")) program.append(tested(line)).append('\n');
            program.append("}\n");
        }
        return program.append("}\n}\n").toString();
    }

    // what is compiled here has a loader of its own, for which only what is public is in sight
    public static void answered(String call, long got, long want) {
        due(call, got, want);
    }

    private static void runExamples(String readme) throws Exception {
        Path dir = Files.createTempDirectory("shown");
        Path source = dir.resolve("Shown.java");
        Files.writeString(source, program(readme));
        String path = System.getProperty("java.class.path");
        int compiled = ToolProvider.getSystemJavaCompiler().run(null, null, null, "-cp", path, "-d", dir.toString(), source.toString());
        due("the examples compile", compiled, 0);
        if (compiled == 0) {
            URL[] where = {dir.toUri().toURL()};
            try (URLClassLoader loader = new URLClassLoader(where, ReadmeExamples.class.getClassLoader())) {
                ((Runnable) loader.loadClass("Shown").getDeclaredConstructor().newInstance()).run();
            }
        }
        Files.deleteIfExists(dir.resolve("Shown.class"));
        Files.delete(source);
        Files.delete(dir);
        due("some examples are shown", shown > 0 ? 1 : 0, 1);
    }

    private static List<String> found(Pattern pattern, String text) {
        List<String> all = new ArrayList<>();
        Matcher m = pattern.matcher(text);
        while (m.find()) all.add(m.groupCount() > 0 ? m.group(1) : m.group());
        return all;
    }

    private static Map<String, String> promises() throws Exception {
        Map<String, String> promises = new TreeMap<>();
        Matcher m = PROMISE.matcher(Files.readString(Path.of("../shared/DOC.md")));
        while (m.find()) promises.put(m.group(1), m.group(2));
        return promises;
    }

    private static void checkTable(String readme) throws Exception {
        Map<String, Integer> arguments = new TreeMap<>();
        for (Method m : BestWords.class.getDeclaredMethods())
            if (Modifier.isPublic(m.getModifiers())) arguments.put(m.getName(), m.getParameterCount());
        Map<String, String> promises = promises();
        Matcher row = ROW.matcher(readme);
        while (row.find()) {
            String name = row.group(1);
            Integer many = arguments.remove(name);
            due("a row of the class's own: " + name, many != null && promises.containsKey(name) ? 1 : 0, 1);
            if (many == null || !promises.containsKey(name)) continue;
            due("arguments of " + name, row.group(2).isEmpty() ? 0 : row.group(2).split(", ").length, many);
            String refused = String.join(" ", found(REFUSAL, promises.get(name)));
            due(name + " is refused as '" + refused + "'", row.group(4).trim().equals(refused) ? 1 : 0, 1);
            due(name + " is marked U", row.group(5).trim().equals("U") ? 1 : 0, found(MARK, promises.get(name)).size());
        }
        due("calls without a row: " + arguments.keySet(), arguments.size(), 0);
    }

    public static void main(String[] args) throws Exception {
        String readme = Files.readString(Path.of("README.md"));
        runExamples(readme);
        checkTable(readme);
        System.out.println(shown + " answers shown in README.md");
        end();
    }
}
