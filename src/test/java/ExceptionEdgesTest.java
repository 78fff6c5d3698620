import java.util.ArrayList;
import java.util.List;

/** What the document says under "Exceptions": which one is thrown, if several apply, and that nothing is changed then. */
public final class ExceptionEdgesTest {
    private static final String INDEX = " = IndexOutOfBoundsException";
    private static final String ARGUMENT = " = IllegalArgumentException";
    private static final String STATE = " = IllegalStateException";
    private static final Edges EDGES = new Edges("ExceptionEdgesTest");

    public static void main(String[] args) {
        indexAheadOfArgument();
        indexAheadOfState();
        argumentAheadOfState();
        changesNothing();
        sweeps();
        EDGES.end();
    }

    private static void indexAheadOfArgument() {
        EDGES.says("If several apply, the one that is named first in the throws clause is thrown.");
        EDGES.run("no such side, venue, day, and an argument out of its range",
            "come(2, 0)" + INDEX,
            "come(-1, 101)" + INDEX,
            "come(1, 0)" + ARGUMENT,
            "quote(3, buy, 0, 1)" + INDEX,
            "quote(-1, sell, 1, 201)" + INDEX,
            "quote(2, sell, 1, 201)" + ARGUMENT,
            "total(2, 0, buy, 2)" + INDEX,
            "total(0, 1, buy, -1)" + INDEX,
            "total(0, 0, buy, -1)" + ARGUMENT);
        EDGES.run("no such order or execution, and an argument out of its range",
            "replace(0, 0, 1)" + INDEX,
            "replace(0, 1, 101)" + INDEX,
            "correct(0, 0)" + INDEX,
            "correct(0, 101)" + INDEX);
    }

    private static void indexAheadOfState() {
        EDGES.run("no such order or execution, and the line is down",
            "cancel(0)" + INDEX,
            "replace(0, 1, 1)" + INDEX,
            "bust(0)" + INDEX,
            "correct(0, 1)" + INDEX);
        EDGES.run("no such order, and all 40 orders are there",
            "on()",
            "40 times order(buy, 1, 1)",
            "cancel(40)" + INDEX,
            "replace(40, 1, 1)" + INDEX);
    }

    private static void argumentAheadOfState() {
        EDGES.run("out of its range, and the line is down",
            "order(buy, 0, 1)" + ARGUMENT,
            "order(buy, 1, 101)" + ARGUMENT,
            "order(buy, 1, 1)" + STATE,
            "on()",
            "order(buy, 9, 9) = 0",
            "cut() = 1",
            "replace(0, 101, 1)" + ARGUMENT,
            "replace(0, 1, 0)" + ARGUMENT,
            "replace(0, 1, 1)" + STATE);
        EDGES.run("out of its range, and there are 40 orders",
            "on()",
            "40 times order(buy, 1, 1)",
            "order(buy, 101, 1)" + ARGUMENT,
            "order(buy, 1, 0)" + ARGUMENT,
            "order(buy, 1, 1)" + STATE);
        EDGES.run("out of its range, and the order is OVER, or 5 requests are under way",
            "on()",
            "order(buy, 9, 9) = 0",
            "order(buy, 9, 9) = 1",
            "cancel(0) = 1",
            "settle()",
            "5 times cancel(1)",
            "replace(0, 0, 1)" + ARGUMENT,
            "replace(1, 1, 101)" + ARGUMENT,
            "replace(0, 1, 1)" + STATE,
            "replace(1, 1, 1)" + STATE);
        EDGES.run("out of its range, and the execution is busted",
            "on()",
            "quote(0, buy, 9, 9) = 0",
            "order(buy, 9, 9) = 0",
            "settle()",
            "bust(0) = 0",
            "correct(0, 0)" + ARGUMENT,
            "correct(0, 101)" + ARGUMENT,
            "correct(0, 9)" + STATE,
            "correct(1, 0)" + INDEX);
    }

    /** Behind each refused call stands one that would tell if it had changed something that no question tells. */
    private static void changesNothing() {
        EDGES.says("A call that throws an exception changes nothing.");
        EDGES.run("a refused ORDER has no number, is no message and counts as nothing sent",
            "on()",
            "pass(9) = 0",
            "order(buy, 0, 1)" + ARGUMENT,
            "order(buy, 1, 101)" + ARGUMENT,
            "pass(1) = 2",
            "order(buy, 9, 9) = 0",
            "valueAt(TRADER, 3, 1) = 3");
        EDGES.run("a refused request is not under way",
            "on()",
            "order(buy, 9, 9) = 0",
            "replace(0, 9, 0)" + ARGUMENT,
            "underWay(0) = 0",
            "5 times cancel(0)",
            "cancel(0)" + STATE,
            "replace(0, 9, 9)" + STATE,
            "underWay(0) = 5",
            "sent(TRADER) = 7");
        EDGES.run("a refused quote leaves the one before, and routes nothing",
            "on()",
            "quote(0, buy, 10, 5) = 0",
            "order(buy, 9, 9) = 0",
            "settle()",
            "quote(0, buy, 9, 201)" + ARGUMENT,
            "quote(0, buy, 0, 9)" + ARGUMENT,
            "executions() = 0",
            "quoted(0, buy) = 5",
            "replace(0, 10, 9) = 1",
            "settle()",
            "done(HOUSE, 0) = 5");
        EDGES.run("a refused connect with a reset forgets nothing",
            "on()",
            "order(buy, 9, 9) = 0",
            "connect(reset)" + STATE,
            "sent(TRADER) = 2",
            "expected(TRADER) = 2",
            "settle()",
            "left(HOUSE, 0) = 9");
        EDGES.run("a refused come, garble or pass moves nothing",
            "on()",
            "pass(5) = 0",
            "order(buy, 9, 9) = 0",
            "come(HOUSE, 0)" + ARGUMENT,
            "come(HOUSE, 101)" + ARGUMENT,
            "garble(HOUSE, 1)" + INDEX,
            "garble(HOUSE, -1)" + INDEX,
            "pass(51)" + ARGUMENT,
            "pass(0)" + ARGUMENT,
            "pass(4) = 0",
            "pass(1) = 1",
            "come(HOUSE, 1) = 1",
            "left(HOUSE, 0) = 9");
        EDGES.run("a refused bust or correction is not reported and changes no price",
            "on()",
            "quote(0, buy, 9, 5) = 0",
            "order(buy, 9, 9) = 0",
            "settle()",
            "correct(0, 101)" + ARGUMENT,
            "correct(0, 8) = 9",
            "bust(0) = 0",
            "bust(0)" + STATE,
            "correct(0, 7)" + STATE,
            "sent(HOUSE) = 5",
            "book(HOUSE, 0) = 4 0 0 5");
    }

    /** Every call with every choice of edge values, in several states. */
    private static void sweeps() {
        EDGES.says("IndexOutOfBoundsException: there is no such side, message, field, order, execution, venue or day."
            + " IllegalArgumentException: another argument is out of its range. IllegalStateException: as the method tells.");
        String[] traded = {"on()", "order(buy, 50, 9)", "order(sell, 50, 9)", "order(buy, 60, 9)", "quote(0, buy, 55, 4)",
            "quote(1, sell, 55, 9)", "settle()", "quote(0, buy, 49, 2)", "bust(0)", "5 times replace(0, 50, 9)", "order(buy, 1, 1)"};
        EDGES.sweep("new");
        EDGES.sweep("connected", "connect(false)");
        EDGES.sweep("the trader alone on", "connect(false)", "come(TRADER, 1)", "order(buy, 9, 9)");
        EDGES.sweep("traded", traded);
        EDGES.sweep("traded, down, a day later", add(traded, "cut()", "endDay()"));
        EDGES.sweep("traded, reset", add(traded, "cut()", "connect(reset)"));
        EDGES.sweep("40 orders", "on()", "40 times order(buy, 9, 9)");
        EDGES.sweep("100 executions", "on()", "order(buy, 9, 100)", "settle()", "100 times quote(0, buy, 9, 1)");
    }

    private static String[] add(String[] rows, String... more) {
        List<String> all = new ArrayList<>(List.of(rows));
        all.addAll(List.of(more));
        return all.toArray(new String[0]);
    }
}
