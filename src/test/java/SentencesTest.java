import java.io.IOException;
import java.nio.file.DirectoryStream;
import java.nio.file.Files;
import java.nio.file.Path;
import java.util.ArrayList;
import java.util.List;
import java.util.Set;
import java.util.regex.Matcher;
import java.util.regex.Pattern;

/**
 * Every sentence of the document behind "Terms" is quoted by a test, that is, runs of calls stand behind an
 * EDGES.says(..) with its words. A sentence of a promise must be quoted ahead of runs that make the promise's call.
 *
 * The constants and the face are held by FaceTest; "Ahead of the calls .. the interface says" tells no answer.
 */
public final class SentencesTest {
    private static final Check CHECK = new Check("SentencesTest");
    private static final Path DOCUMENT = Path.of("..", "shared", "DOC.md");
    private static final String FIRST = "## Terms", LAST = "## Not promised";
    private static final Pattern LITERAL = Pattern.compile("\"((?:[^\"\\\\]|\\\\.)*)\"");
    private static final Pattern QUOTE = Pattern.compile("EDGES\\.says\\(\\s*(" + LITERAL + "(?:\\s*\\+\\s*" + LITERAL + ")*)\\)");
    private static final Pattern PROMISE = Pattern.compile("`[\\w ]*?(\\w+)\\([^`]*`: (.*)");
    private static final Pattern ARGUMENT = Pattern.compile("- `\\w+`: (.*)");
    private static final Set<String> ASKS_A_BOOK = Set.of("left", "done", "doneByLog", "out");
    private static final Pattern NO_ANSWER = Pattern.compile("#.*|The constants: .*|`[A-Z]+ = .*|Ahead of the calls .*");

    /** A quote, and the literals of the runs that stand behind it, up to the next quote that has runs of its own. */
    private record Quoted(String words, String runs) {
    }

    /** A line of the document, where it begins in the whole, and the call of its promise; empty for the terms. */
    private record Line(String words, int at, String call) {
    }

    private final StringBuilder document = new StringBuilder();
    private final List<Line> lines = new ArrayList<>();
    private final List<Quoted> quotes = new ArrayList<>();

    public static void main(String[] args) throws IOException {
        if (!Files.exists(DOCUMENT)) {
            System.out.println("SentencesTest: " + DOCUMENT + " is not here, so that nothing can be held against it");
            return;
        }
        SentencesTest test = new SentencesTest();
        test.readDocument();
        test.readQuotes();
        CHECK.is("sentences were found", test.lines.size() > 150, true);
        CHECK.is("quotes were found", test.quotes.size() > 100, true);
        for (Line line : test.lines) {
            CHECK.same("quoted by no test" + (line.call.isEmpty() ? "" : " with runs of " + line.call), test.unquoted(line), "");
        }
        CHECK.end();
    }

    private void readDocument() throws IOException {
        boolean inside = false;
        String call = "";
        for (String text : Files.readAllLines(DOCUMENT)) {
            String words = text.replaceAll("\\s+", " ").trim();
            inside = (inside || words.equals(FIRST)) && !words.equals(LAST);
            call = words.startsWith("#") ? "" : call;
            if (!inside || words.isEmpty()) {
                continue;
            }
            int begin = document.length();
            document.append(words).append(' ');
            Matcher promise = PROMISE.matcher(words);
            Matcher argument = ARGUMENT.matcher(words);
            if (NO_ANSWER.matcher(words).matches()) {
                continue;
            }
            if (promise.matches()) {
                call = promise.group(1);
                lines.add(new Line(promise.group(2), begin + promise.start(2), call));
            } else if (argument.matches()) {
                lines.add(new Line(argument.group(1), begin + argument.start(1), call));
            } else {
                lines.add(new Line(words, begin, call));
            }
        }
    }

    private void readQuotes() throws IOException {
        try (DirectoryStream<Path> tests = Files.newDirectoryStream(Path.of("src", "test", "java"), "*Test.java")) {
            for (Path test : tests) {
                readQuotesOf(Files.readString(test));
            }
        }
    }

    /** Quotes without a run between them share the runs behind the last of them. */
    private void readQuotesOf(String source) {
        List<String> waiting = new ArrayList<>();
        Matcher quote = QUOTE.matcher(source);
        boolean found = quote.find();
        while (found) {
            waiting.add(literals(quote.group(1), ""));
            int from = quote.end();
            found = quote.find();
            String between = source.substring(from, found ? quote.start() : source.length());
            if (between.contains("EDGES.run(") || between.contains("EDGES.sweep(")) {
                String runs = literals(between, "\n");
                waiting.forEach(words -> quotes.add(new Quoted(words, runs)));
                waiting.clear();
            }
        }
        CHECK.is("quotes without a run: " + waiting, waiting.isEmpty(), true);
    }

    private static String literals(String source, String between) {
        StringBuilder all = new StringBuilder();
        Matcher literal = LITERAL.matcher(source);
        while (literal.find()) {
            all.append(literal.group(1)).append(between);
        }
        return all.toString();
    }

    /** Those words of the line that stand in no quote; nothing if they hold no letter or digit. */
    private String unquoted(Line line) {
        boolean[] quoted = new boolean[line.words.length()];
        Pattern made = Pattern.compile("\\b" + line.call + "\\(");
        for (Quoted quote : quotes) {
            if (!line.call.isEmpty() && !makes(quote, line.call, made)) {
                continue;
            }
            int at = document.indexOf(quote.words);
            while (at >= 0) {
                int from = Math.max(0, at - line.at);
                int end = Math.min(quoted.length, at + quote.words.length() - line.at);
                for (int i = from; i < end; i++) {
                    quoted[i] = true;
                }
                at = document.indexOf(quote.words, at + 1);
            }
        }
        StringBuilder rest = new StringBuilder();
        for (int i = 0; i < quoted.length; i++) {
            rest.append(quoted[i] ? ' ' : line.words.charAt(i));
        }
        return rest.toString().matches("[^A-Za-z0-9]*") ? "" : rest.toString().trim();
    }

    /** The constructor is called by every run; the word book(..) of a run stands for all calls that ask a book. */
    private static boolean makes(Quoted quote, String call, Pattern made) {
        boolean byBook = ASKS_A_BOOK.contains(call) && quote.runs.contains("book(");
        return call.equals("TradeLine") || byBook || made.matcher(quote.runs).find();
    }
}
