import java.io.IOException;
import java.nio.file.Files;
import java.nio.file.Path;
import java.util.List;
import java.util.regex.Matcher;
import java.util.regex.Pattern;

/** What of the language's rules can be seen in the text of the program. Run at the project's root. */
public final class LanguageTest {
    private static final String[] FORBIDDEN = {"->", "::", "\\bcatch\\b", "\\bfinally\\b", "\\bsynchronized\\b",
        "\\bassert\\b", "\\bpackage\\b", "\\bprotected\\b", "\\bgetMessage\\b", "\\bhashCode\\b", "\\btoString\\b",
        "\\bequals\\b", "Exact\\(", "\"\\s*\\+", "\\+\\s*\"", "\\bstatic\\s*\\{", "\\bRandom\\b", "\\bThread\\b",
        "\\bSystem\\.(?!arraycopy)", "\\bstatic (?!final |int |boolean |void |Text )", "\\bnew \\w+\\[\\w*\\]\\[",
        "\\bwhile \\(true\\)", "\\bfor \\(;;\\)"};
    private static final int MOST_LINES_OF_METHOD = 60;
    private static final int MOST_CLASSES = 12;
    private static final int MOST_FIELDS = 20;

    private LanguageTest() {
    }

    public static void main(String[] args) throws IOException {
        Path file = Path.of("src/main/java/ReviewBench.java");
        List<String> lines = Files.readAllLines(file);
        String code = withoutComments(String.join("\n", lines));
        for (String pattern : FORBIDDEN) {
            Matcher matcher = Pattern.compile(pattern).matcher(code);
            Check.due("the program holds " + pattern, "no", () -> matcher.find() ? "at " + matcher.start() : "no");
        }
        checkImports(code);
        checkSigns(lines);
        checkSizes(lines);
        Check.end("LanguageTest");
    }

    private static String withoutComments(String text) {
        return text.replaceAll("(?s)/\\*.*?\\*/", "").replaceAll("//[^\n]*", "");
    }

    private static void checkImports(String code) {
        Matcher matcher = Pattern.compile("import ([^;]*);").matcher(code);
        while (matcher.find()) {
            String name = matcher.group(1);
            Check.due("import of " + name, true,
                () -> List.of("java.util.Arrays", "java.util.NoSuchElementException").contains(name));
        }
    }

    private static void checkSigns(List<String> lines) {
        for (String line : lines) {
            Check.due("a line has signs from 1 to 127 alone: " + line, true,
                () -> line.chars().allMatch(sign -> sign >= 1 && sign <= 127));
        }
    }

    private static void checkSizes(List<String> lines) {
        int classes = 0;
        int fields = 0;
        int start = 0;
        for (int number = 0; number < lines.size(); number++) {
            String line = lines.get(number);
            if (line.matches(".*\\bclass \\w+ \\{")) {
                classes++;
                fields = 0;
            } else if (line.matches("\\s+private [^(]*( = .*)?;") && !line.contains("static final")) {
                fields++;
                int count = fields;
                Check.due("fields of a class are at most " + MOST_FIELDS, true, () -> count <= MOST_FIELDS);
            } else if (line.matches("(    |        )[\\w\\[\\]]+ .*[({,]|(    |        )\\w+\\(.*\\) \\{")) {
                start = number;
            } else if (line.matches("(    |        )\\}")) {
                int length = number - start + 1;
                String first = lines.get(start);
                Check.due("the method is short: " + first, true, () -> length <= MOST_LINES_OF_METHOD
                    || first.contains(" class "));
            }
        }
        int count = classes;
        Check.due("the classes are few", true, () -> count <= MOST_CLASSES);
    }
}
