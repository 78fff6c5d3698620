/** What promises 1 to 35 say beside the edges in CallEdgesTest: what a call does, and to which side, order, venue or execution. */
public final class PromisesTest {
    private static final String INDEX = " = IndexOutOfBoundsException";
    private static final Edges EDGES = new Edges("PromisesTest");

    public static void main(String[] args) {
        connect();
        cut();
        come();
        garble();
        pass();
        isOn();
        order();
        cancel();
        ordersByNumber();
        quotesByVenue();
        correct();
        total();
        EDGES.end();
    }

    private static void connect() {
        EDGES.says("Connects the line. - `resets`: whether with a reset");
        EDGES.run("without one, then with one",
            "connect(false)",
            "isUp() = true",
            "come(TRADER, 1) = 1",
            "come(HOUSE, 1) = 1",
            "order(buy, 9, 9) = 0",
            "cut() = 1",
            "connect(false)",
            "isUp() = true",
            "sent(TRADER) = 3",
            "sent(HOUSE) = 2",
            "expected(HOUSE) = 2",
            "cut() = 2",
            "connect(reset)",
            "isUp() = true",
            "sent(TRADER) = 1",
            "sent(HOUSE) = 1",
            "expected(HOUSE) = 1",
            "orders() = 1");
    }

    private static void cut() {
        EDGES.says("Cuts the line: it goes down.");
        EDGES.run("with a message on its way and one held back",
            "on()",
            "2 times order(buy, 9, 9)",
            "garble(HOUSE, 0) = 2",
            "come(HOUSE, 2) = 2",
            "cut() = 1",
            "isUp() = false",
            "isOn(TRADER) = false",
            "isOn(HOUSE) = false",
            "onWay(TRADER) = 0",
            "held(HOUSE) = 0",
            "pass(50) = 0");
    }

    private static void come() {
        EDGES.says("Lets messages come to a side. - `side`: TRADER or HOUSE");
        EDGES.run("to the one, then to the other",
            "connect(false)",
            "come(TRADER, 1) = 1",
            "isOn(TRADER) = true",
            "isOn(HOUSE) = false",
            "onWay(TRADER) = 0",
            "onWay(HOUSE) = 1",
            "come(HOUSE, 1) = 1",
            "isOn(HOUSE) = true",
            "onWay(HOUSE) = 0",
            "come(-1, 1)" + INDEX,
            "come(2, 1)" + INDEX);
    }

    private static void garble() {
        EDGES.says("Garbles a message on its way to a side. - `side`: TRADER or HOUSE");
        EDGES.says("Throws `IndexOutOfBoundsException` if there is no such side or message");
        EDGES.run("to the house, not to the trader",
            "connect(false)",
            "garble(HOUSE, 0) = 1",
            "garble(HOUSE, 1)" + INDEX,
            "garble(-1, 0)" + INDEX,
            "garble(2, 0)" + INDEX,
            "come(TRADER, 1) = 1",
            "come(HOUSE, 1) = 1",
            "isOn(TRADER) = true",
            "isOn(HOUSE) = false");
        EDGES.run("to the trader, not to the house",
            "connect(false)",
            "garble(TRADER, 0) = 1",
            "come(TRADER, 1) = 1",
            "come(HOUSE, 1) = 1",
            "isOn(TRADER) = false",
            "isOn(HOUSE) = true");
    }

    private static void pass() {
        EDGES.says("Lets ticks pass.");
        EDGES.run("as many as it is told, one behind the other",
            "on()",
            "pass(3) = 0",
            "pass(6) = 0",
            "pass(1) = 2",
            "pass(5) = 2",
            "pass(9) = 0",
            "isUp() = true",
            "pass(1) = 1",
            "isUp() = false");
    }

    private static void isOn() {
        EDGES.says("Returns whether a side is on. - `side`: TRADER or HOUSE Returns true if it is.");
        EDGES.run("each side by itself, then neither",
            "isOn(TRADER) = false",
            "isOn(HOUSE) = false",
            "connect(false)",
            "come(HOUSE, 1) = 1",
            "isOn(TRADER) = false",
            "isOn(HOUSE) = true",
            "come(TRADER, 1) = 1",
            "isOn(TRADER) = true",
            "cut() = 0",
            "isOn(TRADER) = false",
            "isOn(HOUSE) = false");
    }

    private static void order() {
        EDGES.says("Lets the trader send an ORDER. - `sells`: whether it sells");
        EDGES.run("one that buys and one that sells",
            "on()",
            "order(buy, 7, 8) = 0",
            "last(TRADER) = 35=5 34=2 11=0 54=0 44=7 38=8 10=238",
            "order(sell, 7, 8) = 1",
            "last(TRADER) = 35=5 34=3 11=1 54=1 44=7 38=8 10=241",
            "onWay(HOUSE) = 2");
    }

    private static void cancel() {
        EDGES.says("Lets the trader send a CANCEL. - `order`: its number");
        EDGES.run("of the second order, not of the first",
            "on()",
            "2 times order(buy, 9, 9)",
            "cancel(1) = 1",
            "last(TRADER) = 35=6 34=4 41=1 10=121",
            "onWay(HOUSE) = 3",
            "underWay(0) = 0",
            "underWay(1) = 1",
            "settle()",
            "out(HOUSE, 0) = 0",
            "out(HOUSE, 1) = 9");
    }

    private static void ordersByNumber() {
        EDGES.says("- `order`: its number");
        EDGES.says("Returns what is left of an order in the book of a side. - `side`: TRADER or HOUSE");
        EDGES.says("Returns what is done of an order in the book of a side. - `side`: TRADER or HOUSE");
        EDGES.says("Returns what is out of an order in the book of a side. - `side`: TRADER or HOUSE");
        EDGES.says("- `side`: TRADER or HOUSE - `order`: its number");
        EDGES.run("three orders, each of its own, and each side with its own book",
            "on()",
            "quote(0, buy, 9, 4) = 0",
            "order(buy, 9, 9) = 0",
            "order(buy, 8, 5) = 1",
            "order(sell, 8, 3) = 2",
            "come(HOUSE, 2) = 2",
            "come(TRADER, 3) = 3",
            "cancel(1) = 1",
            "come(HOUSE, 2) = 2",
            "book(TRADER, 0) = 5 4 4 0",
            "book(HOUSE, 0) = 5 4 4 0",
            "book(TRADER, 1) = 5 0 0 0",
            "book(HOUSE, 1) = 0 0 0 5",
            "book(TRADER, 2) = 0 0 0 0",
            "book(HOUSE, 2) = 3 0 0 0",
            "stateOf(0) = LIVE",
            "stateOf(2) = PENDING",
            "underWay(0) = 0",
            "underWay(1) = 1",
            "venues(0) = 1",
            "venues(1) = 0",
            "isLeftOut(2) = false",
            "come(TRADER, 2) = 2",
            "stateOf(1) = OVER",
            "stateOf(2) = LIVE",
            "underWay(1) = 0",
            "book(TRADER, 1) = 0 0 0 5",
            "book(TRADER, 2) = 3 0 0 0");
    }

    private static void quotesByVenue() {
        EDGES.says("- `venue`: 0 to 2 - `sells`: whether it is for those who sell");
        EDGES.says("Returns the size of a quote. - `venue`: 0 to 2 - `sells`: whether that for those who sell is meant"
            + " Returns what is left of it.");
        EDGES.run("two of each venue",
            "quote(0, buy, 50, 1) = 0",
            "quote(0, sell, 50, 2) = 0",
            "quote(1, buy, 50, 3) = 0",
            "quote(1, sell, 50, 4) = 0",
            "quote(2, buy, 50, 5) = 0",
            "quote(2, sell, 50, 6) = 0",
            "quoted(0, buy) = 1",
            "quoted(0, sell) = 2",
            "quoted(1, buy) = 3",
            "quoted(1, sell) = 4",
            "quoted(2, buy) = 5",
            "quoted(2, sell) = 6",
            "on()",
            "order(sell, 50, 5) = 0",
            "settle()",
            "quoted(2, buy) = 5",
            "quoted(2, sell) = 1",
            "order(buy, 50, 7) = 1",
            "settle()",
            "quoted(0, buy) = 1",
            "quoted(1, buy) = 1",
            "quoted(2, buy) = 0",
            "quoted(2, sell) = 1");
    }

    private static void correct() {
        EDGES.says("Gives an execution another price, perhaps the same one. - `execution`: its number - `price`: 1 to 100"
            + " Returns the price before.");
        EDGES.run("the second of two, then the first, then the second again",
            "on()",
            "quote(0, buy, 9, 4) = 0",
            "quote(1, buy, 8, 3) = 0",
            "order(buy, 9, 9) = 0",
            "settle()",
            "correct(1, 7) = 9",
            "total(HOUSE, 0, buy, 1) = 52",
            "correct(0, 1) = 8",
            "total(HOUSE, 0, buy, 1) = 31",
            "correct(1, 7) = 7",
            "settle()",
            "total(TRADER, 0, buy, 1) = 31");
    }

    private static void total() {
        EDGES.says("- `side`: TRADER or HOUSE - `day`: 0 to the day of now - `sells`: whether what was sold is meant");
        EDGES.says("Throws `IndexOutOfBoundsException` if there is no such side or day");
        EDGES.run("two sides, two days, both directions",
            "on()",
            "quote(0, buy, 9, 4) = 0",
            "quote(0, sell, 8, 3) = 0",
            "order(buy, 9, 9) = 0",
            "order(sell, 8, 9) = 1",
            "come(HOUSE, 2) = 2",
            "total(HOUSE, 0, buy, 0) = 4",
            "total(HOUSE, 0, sell, 0) = 3",
            "total(TRADER, 0, buy, 0) = 0",
            "come(TRADER, 2) = 2",
            "total(TRADER, 0, buy, 0) = 4",
            "total(TRADER, 0, sell, 0) = 0",
            "settle()",
            "total(TRADER, 0, sell, 1) = 24",
            "endDay() = 1",
            "quote(0, buy, 7, 1) = 1",
            "total(HOUSE, 0, buy, 1) = 36",
            "total(HOUSE, 1, buy, 1) = 7",
            "total(TRADER, 1, buy, 1) = 0",
            "total(HOUSE, 1, sell, 0) = 0",
            "total(HOUSE, 2, buy, 0)" + INDEX,
            "total(HOUSE, -1, buy, 0)" + INDEX,
            "total(-1, 0, buy, 0)" + INDEX,
            "total(2, 0, buy, 0)" + INDEX);
    }
}
