import java.io.IOException;
import java.lang.reflect.Method;
import java.lang.reflect.Modifier;
import java.nio.file.Files;
import java.nio.file.Path;
import java.util.List;
import java.util.regex.Matcher;
import java.util.regex.Pattern;
import java.util.stream.Stream;

/** README.md tells the truth: its calls answer what it says, and it leaves out no call and no test. */
public final class ReadmeTest {
    private static final Pattern MADE = Pattern.compile(" {4}WeaveShares x = new WeaveShares\\(\\);");
    private static final Pattern CALL = Pattern.compile(
            " {4}x\\.(\\w+)\\(([^)]*)\\); +// -> (-?\\d+): .*");
    private static final Pattern TEXT = Pattern.compile(
            " {4}for \\(char c : \"([^\"]+)\"\\.toCharArray\\(\\)\\) \\{ x\\.append\\(c\\); \\}");

    private ReadmeTest() {
    }

    public static void main(String[] args) throws IOException, ReflectiveOperationException {
        List<String> lines = Files.readAllLines(Path.of("README.md"));
        example(lines);
        String page = String.join("\n", lines);
        allCalls(page);
        allTests(page);
        Check.end("ReadmeTest");
    }

    /** The lines of the example are one run, on one object. */
    private static void example(List<String> lines) throws ReflectiveOperationException {
        WeaveShares x = null;
        int calls = 0;
        for (String line : lines) {
            Matcher call = CALL.matcher(line);
            Matcher text = TEXT.matcher(line);
            if (MADE.matcher(line).matches()) {
                Check.that("the example makes one object", x == null);
                x = new WeaveShares();
            } else if (call.matches()) {
                calls++;
                Check.due(line.trim(), answer(x, call.group(1), call.group(2)),
                        Long.parseLong(call.group(3)));
            } else if (text.matches()) {
                Check.append(x, text.group(1));
            } else {
                Check.that("a line that is not understood: " + line, !line.startsWith("    x."));
            }
        }
        Check.that("the example was found", calls >= 10);
    }

    private static long answer(WeaveShares x, String name, String list)
            throws ReflectiveOperationException {
        String[] texts = list.isEmpty() ? new String[0] : list.split(", ");
        Class<?>[] types = new Class<?>[texts.length];
        Object[] values = new Object[texts.length];
        for (int i = 0; i < texts.length; i++) {
            types[i] = int.class;
            values[i] = Integer.valueOf(texts[i]);
        }
        Method method = WeaveShares.class.getMethod(name, types);
        return ((Number) method.invoke(x, values)).longValue();
    }

    /** Each call of the face stands in the table, with as many arguments as it takes. */
    private static void allCalls(String page) {
        for (Method method : WeaveShares.class.getDeclaredMethods()) {
            if (Modifier.isPublic(method.getModifiers())) {
                Matcher m = Pattern.compile("`" + method.getName() + "\\(([\\w, ]*)\\)`").matcher(page);
                boolean found = m.find();
                Check.that("README.md leaves out " + method.getName(), found);
                int told = !found || m.group(1).isEmpty() ? 0 : m.group(1).split(", ").length;
                Check.due("arguments of " + method.getName(), told, method.getParameterCount());
            }
        }
    }

    private static void allTests(String page) throws IOException {
        try (Stream<Path> files = Files.list(Path.of("src/test/java"))) {
            files.map(file -> file.getFileName().toString().replace(".java", ""))
                    .filter(name -> name.endsWith("Test"))
                    .forEach(name -> Check.that("README.md leaves out " + name,
                            page.contains("| `" + name + "` |")));
        }
    }
}
