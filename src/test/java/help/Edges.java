import java.io.IOException;
import java.nio.charset.StandardCharsets;
import java.nio.file.Files;
import java.nio.file.Path;
import java.util.ArrayList;
import java.util.List;
import java.util.Set;
import java.util.regex.Matcher;
import java.util.regex.Pattern;

/**
 * Tests of sentences of the document: each is a run of calls in rows "call = answer" on a new object.
 *
 * A run goes over three objects: the class, the model, and a twin of the class that is spared all
 * questions and refused calls. In the end, and after going on for a while, all three must answer the
 * same, so that a question or a refused call that changes what no answer tells yet is found too.
 */
final class Edges {
    private static final Path DOCUMENT = Path.of("..", "shared", "DOC.md");
    private static final Pattern ROW = Pattern.compile("(?:(\\d+) times )?(\\w+)\\((.*?)\\)(?: = (.*))?");
    static final Set<String> CHANGES = Set.of(
        "connect", "cut", "come", "garble", "pass", "order", "cancel", "replace", "quote", "bust", "correct", "endDay");

    private final Check check;
    private final String document;
    private String sentence = "";

    Edges(String name) {
        check = new Check(name);
        document = plain(read());
    }

    /** The document; nothing where it does not lie beside the tests, as the runs hold without it. */
    private static String read() {
        try {
            return Files.exists(DOCUMENT) ? Files.readString(DOCUMENT, StandardCharsets.UTF_8) : "";
        } catch (IOException broken) {
            throw new AssertionError(broken);
        }
    }

    private static String plain(String text) {
        return text.replaceAll("\\s+", " ");
    }

    /** The sentence, to the letter, that the runs behind this are about. */
    void says(String words) {
        sentence = words;
        check.is("the document says: " + words, document.isEmpty() || document.contains(words), true);
    }

    void run(String edge, String... rows) {
        Run run = new Run(sentence + " [" + edge + "]");
        run.rows(rows);
        run.end();
    }

    /** All calls with all choices of edge values, behind the rows. */
    void sweep(String edge, String... rows) {
        Run run = new Run(sentence + " [all calls, " + edge + "]");
        run.rows(rows);
        new Sweep(check, run.title, run.line, run.model).all();
        run.end();
    }

    void end() {
        check.end();
    }

    /** What a row calls, and the answer that is due; null if any will do. */
    private record Row(int times, String name, Object[] arguments, String due) {
    }

    private static Row row(String text) {
        Matcher parts = ROW.matcher(text);
        if (!parts.matches()) {
            throw new AssertionError("not a row: " + text);
        }
        int times = parts.group(1) == null ? 1 : Integer.parseInt(parts.group(1));
        List<Object> arguments = new ArrayList<>();
        for (String argument : parts.group(3).split(", ")) {
            if (!argument.isEmpty()) {
                arguments.add(value(argument));
            }
        }
        return new Row(times, parts.group(2), arguments.toArray(), due(parts.group(4)));
    }

    private static Object value(String word) {
        switch (word) {
            case "buy": case "false":
                return false;
            case "sell": case "true": case "reset":
                return true;
            default:
                return word.matches("-?\\d+") ? Integer.valueOf(word) : constant(word);
        }
    }

    private static Integer constant(String word) {
        try {
            return TradeLine.class.getField(word).getInt(null);
        } catch (ReflectiveOperationException missing) {
            throw new AssertionError(missing);
        }
    }

    private static String due(String word) {
        if (word == null) {
            return null;
        }
        if (word.endsWith("Exception")) {
            return "throws." + word;
        }
        return word.matches("[A-Z]+") ? constant(word).toString() : word;
    }

    private final class Run {
        private final String title;
        private final TradeLine line = new TradeLine();
        private final TradeLine twin = new TradeLine();
        private final Model model = new Model();

        Run(String title) {
            this.title = title;
        }

        void rows(String... rows) {
            for (String text : rows) {
                Row row = row(text);
                for (int i = 0; i < row.times(); i++) {
                    one(text, row);
                }
            }
        }

        void end() {
            same("in the end");
            goOn(line);
            goOn(twin);
            goOn(model);
            same("after going on");
        }

        private void one(String text, Row row) {
            String what = title + " " + text;
            boolean refused = row.due() != null && row.due().startsWith("throws.");
            String before = refused ? Calls.everything(line) : "";
            String got = answer(line, row);
            if (row.due() == null) {
                check.is(what + " is not refused", got.contains("throws.") || got.contains("THROWS."), false);
            } else {
                check.same(what, got, row.due());
            }
            check.same(what + ", by the model", answer(model, row), got);
            if (refused) {
                check.same(what + " changes nothing", Calls.everything(line), before);
            } else if (CHANGES.contains(row.name()) || isStep(row.name())) {
                answer(twin, row);
            }
        }

        private void same(String when) {
            String all = Calls.everything(line);
            check.same(title + ": questions and refused calls changed nothing, " + when, Calls.everything(twin), all);
            check.same(title + ": the model is the same, " + when, Calls.everything(model), all);
        }
    }

    private static boolean isStep(String name) {
        return name.equals("on") || name.equals("settle");
    }

    /** The answer to a call, or to one of the few words for several calls. */
    private static String answer(Object line, Row row) {
        Object[] arguments = row.arguments();
        switch (row.name()) {
            case "on":
                Calls.answer(line, "connect", false);
                Calls.answer(line, "come", TradeLine.TRADER, 1);
                return Calls.answer(line, "come", TradeLine.HOUSE, 1);
            case "settle":
                return settle(line);
            case "message":
                return message(line, arguments[0], arguments[1]);
            case "last":
                return message(line, arguments[0], Integer.valueOf(Calls.answer(line, "sent", arguments[0])));
            case "book":
                return book(line, arguments[0], arguments[1]);
            default:
                return Calls.answer(line, row.name(), arguments);
        }
    }

    /** Lets all come on both sides, until nothing is on its way. */
    private static String settle(Object line) {
        for (int i = 0; i < 100; i++) {
            boolean none = Calls.answer(line, "come", TradeLine.TRADER, 100).equals("0");
            if (Calls.answer(line, "come", TradeLine.HOUSE, 100).equals("0") && none) {
                return "";
            }
        }
        return "does not settle";
    }

    /** The fields of a message as "tag=value tag=value". */
    private static String message(Object line, Object side, Object number) {
        int count = Integer.parseInt(Calls.answer(line, "fields", side, number));
        StringBuilder all = new StringBuilder();
        for (int place = 0; place < count; place++) {
            all.append(place == 0 ? "" : " ").append(Calls.answer(line, "tagAt", side, number, place));
            all.append('=').append(Calls.answer(line, "valueAt", side, number, place));
        }
        return all.toString();
    }

    /** What is left, done, done by the log, and out, in this order. */
    private static String book(Object line, Object side, Object order) {
        StringBuilder all = new StringBuilder();
        for (String name : new String[] {"left", "done", "doneByLog", "out"}) {
            all.append(all.length() == 0 ? "" : " ").append(Calls.answer(line, name, side, order));
        }
        return all.toString();
    }

    /** Calls that bring to light what no answer tells at once: what was asked for and when, ranks, ticks, garbled ones. */
    private static void goOn(Object line) {
        for (int step = 0; step < 32; step++) {
            Calls.answer(line, "pass", 1);
            Calls.answer(line, "come", step % 2, 1 + step % 3);
            if (step % 5 == 2) {
                Calls.answer(line, "quote", step % 3, step % 2 == 0, step % 2 == 0 ? 100 : 1, 1);
            }
            if (step == 20) {
                Calls.answer(line, "connect", false);
            }
        }
        settle(line);
        Calls.answer(line, "order", true, 50, 10);
        Calls.answer(line, "cancel", 0);
        settle(line);
    }
}
