import java.io.IOException;
import java.nio.file.Files;
import java.nio.file.Path;
import java.util.List;
import java.util.regex.Matcher;
import java.util.regex.Pattern;

/** Some of the rules of ../shared/LANGUAGE.md that can be seen from the text of the class alone. */
public final class LanguageTest {
    private static final String[] FORBIDDEN = {
        "->", "::", "Double.", "Float.", "Exact", "try {", "catch", "finally", "synchronized", "assert ",
        "import ", "package ", "System.", "Thread", "Random", "Object ", "equals", "hashCode",
        "toString", "instanceof", "static {", "@Suppress", "protected ", "new Exception",
        "Map", "Set<", "Stream", "Optional", "Scanner", "native ", "volatile ", "transient "};
    private static final Pattern THROWN = Pattern.compile("throw new (\\w+)\\(\"[^\"]+\"\\);");
    private static final Pattern METHOD = Pattern.compile(
            "^( {4}| {8})(public |private |static |final )*[\\w\\[\\]<>]+ \\w+\\(.*");

    private LanguageTest() {
    }

    public static void main(String[] args) throws IOException {
        Path path = Path.of("src/main/java/WeaveShares.java");
        String text = Files.readString(path);
        List<String> lines = Files.readAllLines(path);
        String code = text.replaceAll("(?s)/\\*.*?\\*/", "").replaceAll("//[^\n]*", "");
        for (String word : FORBIDDEN) {
            Check.that("there is: " + word, !code.contains(word));
        }
        Check.that("there are signs beyond 127", text.chars().allMatch(c -> c < 128));
        thrown(code);
        methods(lines);
        Check.end("LanguageTest");
    }

    /** Only the exceptions of the document are thrown, with a written text. */
    private static void thrown(String code) {
        int thrown = 0;
        Matcher m = THROWN.matcher(code);
        while (m.find()) {
            thrown++;
            Check.that(m.group(1), m.group(1).equals("IndexOutOfBoundsException")
                    || m.group(1).equals("IllegalArgumentException")
                    || m.group(1).equals("IllegalStateException"));
        }
        Check.due("throws in all", code.split("throw ", -1).length - 1, thrown);
    }

    private static void methods(List<String> lines) {
        int seen = 0;
        for (int i = 0; i < lines.size(); i++) {
            Matcher m = METHOD.matcher(lines.get(i));
            if (m.matches() && !lines.get(i).endsWith(";")) {
                seen++;
                String end = m.group(1) + "}";
                int last = i;
                while (last < lines.size() && !lines.get(last).equals(end)) {
                    last++;
                }
                Check.that("a method of over 60 lines at line " + (i + 1), last - i < 60);
            }
        }
        Check.that("the methods were found", seen > 60);
    }
}
