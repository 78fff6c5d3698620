import java.io.IOException;
import java.lang.reflect.Method;
import java.net.URL;
import java.net.URLClassLoader;
import java.nio.file.DirectoryStream;
import java.nio.file.Files;
import java.nio.file.Path;
import java.util.List;
import java.util.TreeSet;
import java.util.regex.Matcher;
import java.util.regex.Pattern;
import javax.tools.JavaCompiler;
import javax.tools.ToolProvider;

/** README.md: its example compiles and answers as it says, and its command is the one that runs all tests. */
public final class ReadmeTest {
    private static final Check CHECK = new Check("ReadmeTest");
    private static final Pattern BLOCK = Pattern.compile("```(\\w+)\n(.*?)```", Pattern.DOTALL);
    private static final Pattern ANSWERED = Pattern.compile("(?:int (\\w+) = )?(.*?); *// = ([\\w.-]+)(?:: .*)?");
    private static final Pattern REFUSED = Pattern.compile("(.*?; *)// throws (\\w+)");
    private static final String HEAD = "public final class Example {\n"
        + "  static final StringBuilder WRONG = new StringBuilder();\n"
        + "  static void due(String call, Object got, Object want) {\n"
        + "    if (!got.equals(want)) { WRONG.append(call).append(\" answered \").append(got).append(' '); }\n"
        + "  }\n"
        + "  public static String wrong() {\n";

    public static void main(String[] args) throws Exception {
        String readme = Files.readString(Path.of("README.md"));
        String use = section(readme, "How to use it");
        String tests = section(readme, "How to run its tests");
        String source = compiled(block(use, "sh"));
        String example = block(use, "java");
        CHECK.same("answers of the example that are not as README.md says", wrongAnswers(source, example), "");
        command(block(tests, "sh"));
        for (String method : calls()) {
            CHECK.is("README.md names " + method, use.contains("`" + method + "`"), true);
        }
        CHECK.end();
    }

    private static String section(String readme, String title) {
        int from = readme.indexOf("## " + title + "\n");
        CHECK.is("README.md says: " + title, from >= 0, true);
        int end = readme.indexOf("\n## ", from + 1);
        return readme.substring(Math.max(from, 0), end < 0 ? readme.length() : end);
    }

    private static String block(String section, String language) {
        Matcher block = BLOCK.matcher(section);
        while (block.find()) {
            if (block.group(1).equals(language)) {
                return block.group(2).trim();
            }
        }
        CHECK.is("a block of " + language, false, true);
        return "";
    }

    /** The source that README.md tells to compile, by the one command "javac -d FOLDER SOURCE". */
    private static String compiled(String command) {
        Matcher parts = Pattern.compile("javac -d \\w+ (\\S+)").matcher(command);
        CHECK.is("a command that compiles: " + command, parts.matches(), true);
        return parts.matches() ? parts.group(1) : "";
    }

    private static String wrongAnswers(String source, String example) throws Exception {
        Path folder = Files.createTempDirectory("readme");
        try {
            Path file = Files.writeString(folder.resolve("Example.java"), HEAD + body(example) + "    return WRONG.toString();\n  }\n}\n");
            JavaCompiler compiler = ToolProvider.getSystemJavaCompiler();
            int code = compiler.run(null, null, null, "-Xlint:all", "-Werror", "-d", folder.toString(), source, file.toString());
            if (code != 0) {
                return "does not compile";
            }
            URL[] classes = {folder.toUri().toURL()};
            try (URLClassLoader loader = new URLClassLoader(classes, ClassLoader.getPlatformClassLoader())) {
                return String.valueOf(loader.loadClass("Example").getMethod("wrong").invoke(null));
            }
        } finally {
            delete(folder);
        }
    }

    private static String body(String example) {
        StringBuilder all = new StringBuilder();
        int answers = 0;
        int refusals = 0;
        for (String line : example.split("\n")) {
            Matcher answered = ANSWERED.matcher(line);
            Matcher refused = REFUSED.matcher(line);
            if (answered.matches()) {
                answers++;
                String got = answered.group(1) == null ? answered.group(2) : answered.group(1);
                all.append(answered.group(1) == null ? "" : line + "\n");
                all.append("due(\"").append(answered.group(2)).append("\", ").append(got).append(", ").append(answered.group(3)).append(");\n");
            } else if (refused.matches()) {
                refusals++;
                all.append("try { ").append(refused.group(1)).append("due(\"").append(refused.group(1)).append("\", \"no exception\", \"\"); }");
                all.append(" catch (").append(refused.group(2)).append(" thrown) { }\n");
            } else {
                CHECK.is("a comment that means an answer: " + line, line.matches(".*// *(=|throws|-?\\d|true|false).*"), false);
                all.append(line).append('\n');
            }
        }
        CHECK.is("the example tells answers and exceptions", answers >= 20 && refusals >= 2, true);
        return all.toString();
    }

    private static void command(String command) throws IOException, InterruptedException {
        Path script = Path.of(command);
        String runBy = System.getProperty("tests.run.by", "");
        CHECK.is(command + " is what runs this test, not " + runBy,
            !runBy.isEmpty() && Files.isSameFile(script, Path.of(runBy)), true);
        TreeSet<String> all = new TreeSet<>();
        all.addAll(javaFilesIn(Path.of("src", "test", "java")));
        all.addAll(javaFilesIn(Path.of("..", "shared", "tests")));
        Process list = new ProcessBuilder("bash", command, "list").redirectError(ProcessBuilder.Redirect.INHERIT).start();
        TreeSet<String> listed = new TreeSet<>(List.of(new String(list.getInputStream().readAllBytes()).split("\n")));
        CHECK.is(command + " list ends well", list.waitFor(), 0);
        CHECK.same("all tests", String.join("\n", listed), String.join("\n", all));
    }

    private static TreeSet<String> javaFilesIn(Path folder) throws IOException {
        TreeSet<String> found = new TreeSet<>();
        try (DirectoryStream<Path> files = Files.newDirectoryStream(folder, "*.java")) {
            files.forEach(file -> found.add(file.toString()));
        }
        return found;
    }

    private static TreeSet<String> calls() {
        TreeSet<String> names = new TreeSet<>();
        for (Method method : TradeLine.class.getMethods()) {
            if (method.getDeclaringClass() == TradeLine.class) {
                names.add(method.getName());
            }
        }
        return names;
    }

    private static void delete(Path folder) throws IOException {
        try (DirectoryStream<Path> files = Files.newDirectoryStream(folder)) {
            for (Path file : files) {
                Files.delete(file);
            }
        }
        Files.delete(folder);
    }
}
