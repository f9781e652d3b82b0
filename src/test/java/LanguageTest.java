import java.io.IOException;
import java.nio.file.Files;
import java.nio.file.Path;
import java.util.List;
import java.util.regex.Matcher;
import java.util.regex.Pattern;

/** Some of the rules of ../shared/LANGUAGE.md that can be seen from the text of the class alone. */
public final class LanguageTest {
    /** What no rule lets stand in the class, as patterns. */
    private static final String[] FORBIDDEN = {
        "::", "\\bfinally\\b", "\\bsynchronized\\b", "\\bassert\\b", "(?m)^\\s*package\\b",
        "(?m)^\\s*import\\s+(?!java\\.util\\.)", "\\bSystem\\.(?!arraycopy\\b)", "\\bThread\\b",
        "\\bRandom\\b", "\\bhashCode\\b", "\\bstatic\\s*\\{", "\\bprotected\\b", "\\bnative\\b",
        "\\bvolatile\\b", "\\btransient\\b", "\\b(Hash|Tree|LinkedHash)?(Map|Set)<", "\\bStream\\b",
        "\\bOptional\\b", "\\bScanner\\b", "\\bgetMessage\\b", "\\bextends\\s+\\w*Exception\\b",
        "\\bcatch\\s*\\([^)]*\\b(Throwable|Exception|Error|ArrayIndexOutOfBoundsException"
            + "|NullPointerException|ClassCastException|NegativeArraySizeException"
            + "|ArrayStoreException)\\b"};
    private static final Pattern THROWN = Pattern.compile(
            "throw new (\\w+)\\((\"[^\"]+\")?\\);");
    private static final List<String> EXCEPTIONS = List.of("IllegalStateException",
            "IllegalArgumentException", "IndexOutOfBoundsException", "ArithmeticException",
            "UnsupportedOperationException", "NoSuchElementException", "RuntimeException");
    private static final Pattern METHOD = Pattern.compile(
            "^( {4}| {8})(public |private |static |final )*[\\w\\[\\]<>]+ \\w+\\(.*");
    private static final Pattern TYPE = Pattern.compile(
            "^(?:public | {4}private )(?:static |final )*class (\\w+)");
    private static final Pattern METHOD_HEAD = Pattern.compile(
            "^( {4}| {8})(public |private |static |final )*([\\w\\[\\]<>]+ )?\\w+\\(.*");
    private static final Pattern FIELD = Pattern.compile(
            "^( {4}| {8})(private )?final [\\w\\[\\]]+ \\w+ = new .*;");

    private LanguageTest() {
    }

    public static void main(String[] args) throws IOException {
        Path path = Path.of("src/main/java/WeaveShares.java");
        List<String> lines = Files.readAllLines(path);
        String code = String.join("\n", lines).replaceAll("(?s)/\\*.*?\\*/", "")
                .replaceAll("//[^\n]*", "");
        for (String pattern : FORBIDDEN) {
            Matcher m = Pattern.compile(pattern).matcher(code);
            boolean found = m.find();
            Check.that("there is: " + (found ? m.group() : ""), !found);
        }
        for (String line : code.split("\n")) {
            boolean arrow = line.contains("->") && !line.matches("\\s*(case|default)\\b.*");
            Check.that("a lambda: " + line, !arrow);
        }
        Check.that("there are signs beyond 127", code.chars().allMatch(c -> c < 128));
        thrown(code);
        methods(lines);
        made(code);
        Check.end("LanguageTest");
    }

    /** Rule 6: only these exceptions are thrown, with a written text or none. */
    private static void thrown(String code) {
        int thrown = 0;
        Matcher m = THROWN.matcher(code);
        while (m.find()) {
            thrown++;
            Check.that("thrown: " + m.group(1), EXCEPTIONS.contains(m.group(1)));
        }
        Check.due("throws in all", code.split("\\bthrow ", -1).length - 1, thrown);
    }

    /** Rule 12: no call makes an object, so that a run of any length stays in its room. */
    private static void made(String code) {
        String type = "";
        boolean constructing = false;
        for (String line : code.split("\n")) {
            Matcher head = TYPE.matcher(line);
            type = head.find() ? head.group(1) : type;
            if (!line.endsWith(";") && METHOD_HEAD.matcher(line).matches()) {
                constructing = line.matches("(    |        )(public )?" + type + "\\(.*");
            }
            boolean makes = line.contains("new ") && !THROWN.matcher(line).find();
            Check.that("a call makes an object: " + line,
                    !makes || constructing || FIELD.matcher(line).matches());
        }
    }

    /** Rule 11: methods stay short. */
    private static void methods(List<String> lines) {
        int seen = 0;
        for (int i = 0; i < lines.size(); i++) {
            Matcher m = METHOD.matcher(lines.get(i));
            if (m.matches() && !lines.get(i).endsWith(";")) {
                seen++;
                String end = m.group(1) + "}";
                int last = i;
                while (last < lines.size() && !lines.get(last).equals(end)) {
                    last++;
                }
                Check.that("a method of over 60 lines at line " + (i + 1), last - i <= 65);
            }
        }
        Check.that("the methods of the face were found", seen >= 26);
    }
}
