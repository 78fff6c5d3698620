import java.io.IOException;
import java.nio.charset.StandardCharsets;
import java.nio.file.Files;
import java.nio.file.Path;
import java.util.List;
import java.util.regex.Matcher;
import java.util.regex.Pattern;

/** The rules of LANGUAGE.md that can be read off the lines of the class. */
public final class LanguageTest {
    private static final Check CHECK = new Check("LanguageTest");
    private static final String[] FORBIDDEN = {
        "->", "::", "\\btry\\b", "\\bcatch\\b", "\\bfinally\\b", "\\bsynchronized\\b", "\\bassert\\b", "^package ",
        "\" *\\+", "\\+ *\"", "Exact\\(", "\\bequals\\(", "\\bhashCode\\(", "\\btoString\\(", "\\bstatic \\{",
        "\\bRandom\\b", "\\bThread\\b", "\\bvolatile\\b", "\\bprotected\\b", "\\bwhile \\(true\\)", "\\bfor \\(;;\\)",
    };
    private static final Pattern LIBRARY = Pattern.compile("\\b(System|Math|Arrays|Integer|Long|List|Objects|Collections)\\.(\\w+)");
    private static final List<String> ALLOWED = List.of(
        "System.arraycopy", "Math.max", "Math.min", "Math.floorMod", "Arrays.copyOf", "Arrays.fill");
    private static final Pattern THROWN = Pattern.compile("\\bthrow\\b(?! new (IndexOutOfBounds|IllegalArgument|IllegalState)Exception\\(\"[^\"]*\"\\);)");
    private static final Pattern METHOD = Pattern.compile("^( {4}| {8})\\S.*\\) (throws .*)?\\{$");

    public static void main(String[] args) throws IOException {
        Path source = Path.of("src", "main", "java", "TradeLine.java");
        List<String> lines = Files.readAllLines(source, StandardCharsets.UTF_8);
        for (int i = 0; i < lines.size(); i++) {
            line("line " + (i + 1) + ": ", lines.get(i));
        }
        CHECK.is("methods were found", methods(lines) > 50, true);
        CHECK.end();
    }

    private static void line(String where, String line) {
        CHECK.is(where + "plain signs alone", line.chars().allMatch(sign -> sign >= 32 && sign < 127), true);
        String code = line.replaceAll("//.*", "").replaceAll("^ *\\*.*|/\\*\\*.*", "");
        for (String pattern : FORBIDDEN) {
            CHECK.is(where + "has " + pattern, Pattern.compile(pattern).matcher(code).find(), false);
        }
        CHECK.is(where + "throws otherwise", THROWN.matcher(code).find(), false);
        if (code.startsWith("import ")) {
            CHECK.is(where + "import", code.equals("import java.util.ArrayList;") || code.equals("import java.util.Arrays;"), true);
        }
        Matcher calls = LIBRARY.matcher(code.startsWith("import ") ? "" : code);
        while (calls.find()) {
            CHECK.is(where + "calls " + calls.group(), ALLOWED.contains(calls.group()), true);
        }
    }

    /** Looks at the length and the parameters of each method, and counts them. */
    private static int methods(List<String> lines) {
        int count = 0;
        for (int i = 0; i < lines.size(); i++) {
            Matcher begins = METHOD.matcher(lines.get(i));
            if (!begins.find() || lines.get(i).contains(" class ")) {
                continue;
            }
            count++;
            int end = lines.subList(i, lines.size()).indexOf(begins.group(1) + "}");
            CHECK.is("line " + (i + 1) + ": a method of 60 lines at most", end >= 0 && end <= 60, true);
            String header = lines.get(i).replaceAll("throws.*", "");
            CHECK.is("line " + (i + 1) + ": 7 parameters at most", header.chars().filter(sign -> sign == ',').count() <= 6, true);
        }
        return count;
    }
}
