/** The edges that promises 1 to 35 name themselves: what each call takes, and what it returns at the edges. */
public final class CallEdgesTest {
    private static final String INDEX = " = IndexOutOfBoundsException";
    private static final String ARGUMENT = " = IllegalArgumentException";
    private static final String STATE = " = IllegalStateException";
    private static final String LEAST = "-2147483648";
    private static final String GREATEST = "2147483647";
    private static final Edges EDGES = new Edges("CallEdgesTest");

    public static void main(String[] args) {
        newObject();
        manyCalls();
        connectAndCut();
        come();
        garble();
        pass();
        questions();
        sides();
        numbers();
        places();
        order();
        cancel();
        replace();
        ordersOfQuestions();
        stateOf();
        isLeftOut();
        quote();
        bust();
        correct();
        counts();
        books();
        venues();
        total();
        agree();
        EDGES.end();
    }

    private static void newObject() {
        EDGES.says("Makes a line that is down, without orders and quotes.");
        EDGES.run("nothing at all",
            "isUp() = false",
            "isOn(TRADER) = false",
            "isOn(HOUSE) = false",
            "orders() = 0",
            "executions() = 0",
            "quoted(0, buy) = 0",
            "quoted(2, sell) = 0",
            "agree() = true",
            "left(TRADER, 0)" + INDEX,
            "total(TRADER, 0, buy, 1) = 0");
    }

    private static void manyCalls() {
        EDGES.says("An object is used for at most 512 calls after it has been made; what later calls answer is free.");
        EDGES.run("the 512th call is answered as the first one",
            "510 times endDay()",
            "endDay() = 511",
            "total(HOUSE, 511, buy, 0) = 0");
        EDGES.run("509 calls, refused ones among them",
            "connect(false)",
            "come(TRADER, 1) = 1",
            "40 times order(buy, 9, 9)",
            "5 times replace(0, 9, 9)",
            "40 times replace(0, 9, 9) = IllegalStateException",
            "onWay(HOUSE) = 46",
            "4 times come(HOUSE, 100)",
            "100 times correct(0, 9) = IndexOutOfBoundsException",
            "sent(HOUSE) = 46",
            "4 times come(TRADER, 100)",
            "300 times quote(0, buy, 9, 1)",
            "executions() = 100",
            "10 times pass(1)",
            "sent(TRADER) = 47");
    }

    private static void connectAndCut() {
        EDGES.says("Throws `IllegalStateException` if it is up");
        EDGES.run("down, up, down again",
            "connect(false)",
            "connect(false)" + STATE,
            "connect(reset)" + STATE,
            "cut() = 2",
            "connect(reset)",
            "connect(reset)" + STATE);
        EDGES.run("down by itself",
            "on()",
            "connect(false)" + STATE,
            "pass(25) = 5",
            "connect(false)");
        EDGES.says("Returns how many messages are lost.");
        EDGES.run("none, one of each side, all of one side",
            "connect(false)",
            "cut() = 2",
            "connect(reset)",
            "come(TRADER, 1) = 1",
            "cut() = 1",
            "connect(reset)",
            "settle()",
            "cut() = 0");
        EDGES.says("Throws `IllegalStateException` if it is down");
        EDGES.run("at first, cut, and down by itself",
            "cut()" + STATE,
            "on()",
            "cut() = 0",
            "cut()" + STATE,
            "connect(reset)",
            "settle()",
            "pass(25) = 5",
            "cut()" + STATE);
    }

    private static void come() {
        EDGES.says("1 to 100: how many, or all that are on their way when it begins, if they are fewer");
        EDGES.run("1, fewer than there are, more than there are, none",
            "on()",
            "40 times order(buy, 50, 9)",
            "5 times replace(0, 50, 9)",
            "come(TRADER, 100) = 0",
            "come(HOUSE, 1) = 1",
            "onWay(HOUSE) = 44",
            "come(HOUSE, 43) = 43",
            "come(HOUSE, 2) = 1",
            "come(HOUSE, 1) = 0");
        EDGES.run("100 of 101",
            "on()",
            "20 times order(buy, 50, 9)",
            "5 times replace(0, 50, 9)",
            "5 times replace(1, 50, 9)",
            "5 times replace(2, 50, 9)",
            "5 times replace(3, 50, 9)",
            "5 times replace(4, 50, 9)",
            "5 times replace(5, 50, 9)",
            "5 times replace(6, 50, 9)",
            "5 times replace(7, 50, 9)",
            "5 times replace(8, 50, 9)",
            "5 times replace(9, 50, 9)",
            "5 times replace(10, 50, 9)",
            "5 times replace(11, 50, 9)",
            "5 times replace(12, 50, 9)",
            "5 times replace(13, 50, 9)",
            "5 times replace(14, 50, 9)",
            "5 times replace(15, 50, 9)",
            "cancel(16) = 1",
            "onWay(HOUSE) = 101",
            "come(HOUSE, 100) = 100",
            "onWay(HOUSE) = 1",
            "expected(HOUSE) = 102",
            "come(HOUSE, 100) = 1");
        EDGES.says("Throws `IllegalArgumentException` if many is out of range");
        EDGES.run("0, 1, 100 and 101",
            "on()",
            "order(buy, 50, 9) = 0",
            "come(HOUSE, 0)" + ARGUMENT,
            "come(HOUSE, -1)" + ARGUMENT,
            "come(HOUSE, 101)" + ARGUMENT,
            "come(HOUSE, " + LEAST + ")" + ARGUMENT,
            "come(HOUSE, " + GREATEST + ")" + ARGUMENT,
            "come(TRADER, 101)" + ARGUMENT,
            "come(TRADER, 1) = 0",
            "come(HOUSE, 100) = 1");
        EDGES.says("Returns how many come, lost ones included.");
        EDGES.run("all lost",
            "connect(false)",
            "garble(TRADER, 0) = 1",
            "come(TRADER, 100) = 1",
            "isOn(TRADER) = false",
            "come(TRADER, 100) = 0");
        EDGES.run("what is sent meanwhile to the other side does not come",
            "on()",
            "2 times order(buy, 50, 9)",
            "come(HOUSE, 2) = 2",
            "onWay(TRADER) = 2");
    }

    private static void garble() {
        EDGES.says("0 for the one that comes next");
        EDGES.run("of none, one and two",
            "garble(HOUSE, 0)" + INDEX,
            "on()",
            "garble(HOUSE, 0)" + INDEX,
            "order(buy, 9, 9) = 0",
            "garble(HOUSE, -1)" + INDEX,
            "garble(HOUSE, 0) = 2",
            "garble(HOUSE, 1)" + INDEX,
            "garble(TRADER, 0)" + INDEX,
            "order(buy, 9, 9) = 1",
            "garble(HOUSE, 1) = 3",
            "garble(HOUSE, 2)" + INDEX,
            "garble(HOUSE, " + LEAST + ")" + INDEX,
            "garble(HOUSE, " + GREATEST + ")" + INDEX);
        EDGES.says("Returns its number.");
        EDGES.run("one behind the other, twice the same",
            "on()",
            "3 times order(buy, 9, 9)",
            "garble(HOUSE, 1) = 3",
            "garble(HOUSE, 1) = 3",
            "onWay(HOUSE) = 3",
            "come(HOUSE, 1) = 1",
            "garble(HOUSE, 0) = 3",
            "come(HOUSE, 1) = 1",
            "expected(HOUSE) = 3",
            "garble(HOUSE, 0) = 4");
    }

    private static void pass() {
        EDGES.says("- `ticks`: 1 to 50 Returns how many messages the sides send in them. Throws `IllegalArgumentException` if ticks"
            + " is out of range");
        EDGES.run("0, 1, 50 and 51",
            "pass(0)" + ARGUMENT,
            "pass(-1)" + ARGUMENT,
            "pass(1) = 0",
            "pass(50) = 0",
            "pass(51)" + ARGUMENT,
            "pass(" + LEAST + ")" + ARGUMENT,
            "pass(" + GREATEST + ")" + ARGUMENT,
            "on()",
            "pass(9) = 0",
            "pass(51)" + ARGUMENT,
            "pass(1) = 2");
        EDGES.says("Returns how many messages the sides send in them.");
        EDGES.run("none, one, and all of both until the line goes down",
            "connect(false)",
            "pass(50) = 0",
            "cut() = 2",
            "connect(reset)",
            "come(HOUSE, 1) = 1",
            "pass(10) = 1",
            "cut() = 2",
            "connect(reset)",
            "settle()",
            "pass(50) = 5");
        EDGES.run("not those of before, not those that go again",
            "on()",
            "2 times order(buy, 9, 9)",
            "garble(HOUSE, 0) = 2",
            "come(HOUSE, 2) = 2",
            "come(TRADER, 1) = 1",
            "pass(9) = 0");
    }

    private static void questions() {
        EDGES.says("Questions change nothing.");
        EDGES.run("asked of a side that has sent nothing for 9 ticks, and of an order with an answer on its way",
            "on()",
            "order(buy, 9, 9) = 0",
            "quote(0, buy, 9, 4) = 0",
            "come(HOUSE, 1) = 1",
            "pass(9) = 0",
            "isUp() = true",
            "isOn(TRADER) = true",
            "onWay(TRADER) = 2",
            "sent(HOUSE) = 3",
            "expected(TRADER) = 2",
            "held(TRADER) = 0",
            "fields(HOUSE, 3) = 10",
            "tagAt(HOUSE, 3, 9) = 10",
            "valueAt(HOUSE, 3, 4) = 1",
            "stateOf(0) = PENDING",
            "isLeftOut(0) = false",
            "underWay(0) = 0",
            "quoted(0, buy) = 0",
            "executions() = 1",
            "orders() = 1",
            "book(TRADER, 0) = 0 0 0 0",
            "book(HOUSE, 0) = 5 4 4 0",
            "venues(0) = 1",
            "total(TRADER, 0, buy, 0) = 0",
            "agree() = false",
            "pass(1) = 2",
            "come(TRADER, 3) = 3",
            "agree() = true");
        EDGES.says("Returns whether the line is up.");
        EDGES.run("down, up, down, up",
            "isUp() = false",
            "connect(false)",
            "isUp() = true",
            "cut() = 2",
            "isUp() = false",
            "on()",
            "isUp() = true");
        EDGES.says("Returns how many messages are on their way to a side. - `side`: TRADER or HOUSE Returns how many.");
        EDGES.run("none, one and two, garbled ones too",
            "onWay(HOUSE) = 0",
            "on()",
            "onWay(HOUSE) = 0",
            "order(buy, 9, 9) = 0",
            "onWay(HOUSE) = 1",
            "onWay(TRADER) = 0",
            "garble(HOUSE, 0) = 2",
            "order(buy, 9, 9) = 1",
            "onWay(HOUSE) = 2",
            "come(HOUSE, 1) = 1",
            "onWay(HOUSE) = 1");
        EDGES.says("Returns the number that a side expects. - `side`: TRADER or HOUSE Returns the number.");
        EDGES.run("1, 2 and 3, each side its own",
            "expected(HOUSE) = 1",
            "on()",
            "expected(HOUSE) = 2",
            "order(buy, 9, 9) = 0",
            "expected(HOUSE) = 2",
            "come(HOUSE, 1) = 1",
            "expected(HOUSE) = 3",
            "expected(TRADER) = 2");
        EDGES.says("Returns how many messages a side holds back. - `side`: TRADER or HOUSE Returns how many.");
        EDGES.run("none, one and two, each side its own",
            "held(TRADER) = 0",
            "on()",
            "3 times order(buy, 9, 9)",
            "come(HOUSE, 3) = 3",
            "garble(TRADER, 0) = 2",
            "come(TRADER, 1) = 1",
            "held(TRADER) = 0",
            "come(TRADER, 1) = 1",
            "held(TRADER) = 1",
            "come(TRADER, 1) = 1",
            "held(TRADER) = 2",
            "held(HOUSE) = 0");
    }

    private static void sides() {
        EDGES.says("Throws `IndexOutOfBoundsException` if there is no such side");
        for (String name : new String[] {"isOn(", "onWay(", "sent(", "expected(", "held("}) {
            EDGES.run(name + "side)",
                name + "-1)" + INDEX,
                name + "2)" + INDEX,
                name + LEAST + ")" + INDEX,
                name + GREATEST + ")" + INDEX,
                "connect(false)",
                name + "0)",
                name + "1)",
                name + "-1)" + INDEX,
                name + "2)" + INDEX);
        }
        EDGES.run("of the other calls with a side",
            "on()",
            "order(buy, 9, 9) = 0",
            "come(-1, 1)" + INDEX,
            "come(2, 1)" + INDEX,
            "garble(-1, 0)" + INDEX,
            "garble(2, 0)" + INDEX,
            "fields(-1, 1)" + INDEX,
            "fields(2, 1)" + INDEX,
            "tagAt(-1, 1, 0)" + INDEX,
            "tagAt(2, 1, 0)" + INDEX,
            "valueAt(-1, 1, 0)" + INDEX,
            "valueAt(2, 1, 0)" + INDEX,
            "total(-1, 0, buy, 0)" + INDEX,
            "total(2, 0, buy, 0)" + INDEX);
        EDGES.says("Returns the number that a side gave last. - `side`: TRADER or HOUSE Returns the number; 0 if there is none.");
        EDGES.run("none, one, two",
            "sent(TRADER) = 0",
            "connect(false)",
            "sent(TRADER) = 1",
            "come(TRADER, 1) = 1",
            "order(buy, 9, 9) = 0",
            "sent(TRADER) = 2",
            "sent(HOUSE) = 1");
    }

    private static void numbers() {
        EDGES.says("- `side`: TRADER or HOUSE: the one that sent it - `number`: 1 to the number that the side gave last");
        EDGES.says("Throws `IndexOutOfBoundsException` if there is no such side or message");
        EDGES.run("0, 1, the last and one more, of each side",
            "on()",
            "2 times order(buy, 9, 9)",
            "fields(TRADER, 0)" + INDEX,
            "fields(TRADER, -1)" + INDEX,
            "fields(TRADER, 1) = 3",
            "fields(TRADER, 3) = 7",
            "fields(TRADER, 4)" + INDEX,
            "fields(HOUSE, 1) = 3",
            "fields(HOUSE, 2)" + INDEX,
            "fields(HOUSE, " + LEAST + ")" + INDEX,
            "fields(HOUSE, " + GREATEST + ")" + INDEX,
            "tagAt(TRADER, 0, 0)" + INDEX,
            "tagAt(TRADER, 1, 0) = 35",
            "tagAt(TRADER, 3, 0) = 35",
            "tagAt(TRADER, 4, 0)" + INDEX,
            "tagAt(HOUSE, 2, 0)" + INDEX,
            "valueAt(TRADER, 0, 0)" + INDEX,
            "valueAt(TRADER, 1, 0) = LOGON",
            "valueAt(TRADER, 3, 0) = ORDER",
            "valueAt(TRADER, 4, 0)" + INDEX,
            "valueAt(HOUSE, 2, 0)" + INDEX,
            "valueAt(HOUSE, " + LEAST + ", 0)" + INDEX,
            "tagAt(HOUSE, " + GREATEST + ", 0)" + INDEX);
        EDGES.says("Returns how many fields a message has.");
        EDGES.says("Returns how many, the sum included.");
        EDGES.run("the fewest, and those of each kind",
            "on()",
            "order(buy, 9, 9) = 0",
            "cancel(0) = 1",
            "replace(0, 9, 9) = 2",
            "garble(HOUSE, 1) = 3",
            "come(HOUSE, 3) = 3",
            "fields(TRADER, 1) = 3",
            "fields(TRADER, 2) = 7",
            "fields(TRADER, 3) = 4",
            "fields(TRADER, 4) = 6",
            "fields(HOUSE, 2) = 5",
            "fields(HOUSE, 3) = 4");
    }

    private static void places() {
        EDGES.says("Returns the tag of a field.");
        EDGES.says("Returns the value of a field.");
        EDGES.says("- `place`: from 0 Returns the tag. Throws `IndexOutOfBoundsException` if there is no such side, message or field");
        EDGES.says("- `place`: from 0 Returns the value. Throws `IndexOutOfBoundsException` if there is no such side, message or field");
        EDGES.run("-1, 0, the last and one more",
            "on()",
            "order(buy, 7, 8) = 0",
            "tagAt(TRADER, 2, -1)" + INDEX,
            "tagAt(TRADER, 2, 0) = 35",
            "tagAt(TRADER, 2, 1) = 34",
            "tagAt(TRADER, 2, 6) = 10",
            "tagAt(TRADER, 2, 7)" + INDEX,
            "tagAt(TRADER, 1, 2) = 10",
            "tagAt(TRADER, 1, 3)" + INDEX,
            "tagAt(TRADER, 2, " + LEAST + ")" + INDEX,
            "tagAt(TRADER, 2, " + GREATEST + ")" + INDEX,
            "tagAt(TRADER, 2, 1073741824)" + INDEX,
            "valueAt(TRADER, 2, -1)" + INDEX,
            "valueAt(TRADER, 2, 0) = ORDER",
            "valueAt(TRADER, 2, 1) = 2",
            "valueAt(TRADER, 2, 5) = 8",
            "valueAt(TRADER, 2, 6) = 238",
            "valueAt(TRADER, 2, 7)" + INDEX,
            "valueAt(TRADER, 1, 2) = 70",
            "valueAt(TRADER, 1, 3)" + INDEX,
            "valueAt(TRADER, 2, " + LEAST + ")" + INDEX,
            "valueAt(TRADER, 2, " + GREATEST + ")" + INDEX,
            "valueAt(TRADER, 2, 1073741824)" + INDEX);
    }

    private static void order() {
        EDGES.says("- `price`: 1 to 100 - `size`: 1 to 100 Returns the number of the order. Throws `IllegalArgumentException` if price"
            + " or size is out of range");
        EDGES.run("prices and sizes of 0, 1, 100 and 101",
            "on()",
            "order(buy, 0, 1)" + ARGUMENT,
            "order(buy, 1, 0)" + ARGUMENT,
            "order(buy, 101, 100)" + ARGUMENT,
            "order(sell, 100, 101)" + ARGUMENT,
            "order(sell, -1, 50)" + ARGUMENT,
            "order(sell, 50, -1)" + ARGUMENT,
            "order(sell, " + LEAST + ", 50)" + ARGUMENT,
            "order(sell, 50, " + GREATEST + ")" + ARGUMENT,
            "orders() = 0",
            "order(buy, 1, 1) = 0",
            "order(buy, 1, 100) = 1",
            "order(sell, 100, 1) = 2",
            "order(sell, 100, 100) = 3");
        EDGES.says("Throws `IllegalStateException` if the TRADER is not on, or there are 40 orders");
        EDGES.run("not on: down, up without the LOGON, down again",
            "order(buy, 1, 1)" + STATE,
            "connect(false)",
            "order(buy, 1, 1)" + STATE,
            "come(HOUSE, 1) = 1",
            "order(buy, 1, 1)" + STATE,
            "come(TRADER, 1) = 1",
            "order(buy, 1, 1) = 0",
            "cut() = 1",
            "order(buy, 1, 1)" + STATE);
        EDGES.run("39, 40 and 41",
            "on()",
            "39 times order(buy, 1, 1)",
            "order(buy, 1, 1) = 39",
            "order(buy, 1, 1)" + STATE,
            "order(buy, 0, 1)" + ARGUMENT);
    }

    private static void cancel() {
        EDGES.says("Throws `IllegalStateException` if the TRADER is not on, the order is OVER, or 5 requests are under way for it");
        EDGES.run("not on",
            "on()",
            "order(buy, 1, 1) = 0",
            "cut() = 1",
            "cancel(0)" + STATE,
            "replace(0, 1, 1)" + STATE,
            "connect(false)",
            "come(HOUSE, 1) = 1",
            "cancel(0)" + STATE,
            "replace(0, 1, 1)" + STATE,
            "come(TRADER, 1) = 1",
            "cancel(0) = 1",
            "replace(0, 1, 1) = 2");
        EDGES.run("PENDING, LIVE and OVER",
            "on()",
            "order(buy, 9, 2) = 0",
            "cancel(0) = 1",
            "cut() = 2",
            "connect(reset)",
            "settle()",
            "order(buy, 9, 2) = 1",
            "settle()",
            "cancel(1) = 1",
            "cancel(1) = 2",
            "settle()",
            "stateOf(1) = OVER",
            "cancel(1)" + STATE,
            "replace(1, 9, 2)" + STATE,
            "cancel(0) = 2");
        EDGES.says("Returns how many requests are under way for the order then.");
        EDGES.run("1 to 5, and one more; 4 again when one is answered",
            "on()",
            "2 times order(buy, 9, 9)",
            "cancel(0) = 1",
            "cancel(0) = 2",
            "replace(0, 9, 9) = 3",
            "replace(0, 9, 9) = 4",
            "cancel(0) = 5",
            "cancel(0)" + STATE,
            "replace(0, 9, 9)" + STATE,
            "replace(0, 9, 101)" + ARGUMENT,
            "cancel(1) = 1",
            "come(HOUSE, 3) = 3",
            "come(TRADER, 2) = 2",
            "cancel(0)" + STATE,
            "come(TRADER, 1) = 1",
            "underWay(0) = 4",
            "cancel(0)" + STATE,
            "underWay(1) = 1");
        EDGES.run("4 again of an order that is LIVE",
            "on()",
            "order(buy, 9, 9) = 0",
            "5 times replace(0, 9, 9)",
            "come(HOUSE, 2) = 2",
            "come(TRADER, 2) = 2",
            "underWay(0) = 4",
            "cancel(0) = 5",
            "cancel(0)" + STATE);
        EDGES.says("Throws `IndexOutOfBoundsException` if there is no such order");
        EDGES.run("of none, of one",
            "on()",
            "cancel(0)" + INDEX,
            "replace(0, 1, 1)" + INDEX,
            "order(buy, 1, 1) = 0",
            "cancel(-1)" + INDEX,
            "cancel(1)" + INDEX,
            "cancel(" + LEAST + ")" + INDEX,
            "cancel(" + GREATEST + ")" + INDEX,
            "replace(-1, 1, 1)" + INDEX,
            "replace(1, 1, 1)" + INDEX,
            "cancel(0) = 1");
    }

    private static void replace() {
        EDGES.says("Lets the trader send a REPLACE. - `order`: its number - `price`: 1 to 100 - `size`: 1 to 100");
        EDGES.says("Throws `IllegalArgumentException` if price or size is out of range");
        EDGES.run("prices and sizes of 0, 1, 100 and 101",
            "on()",
            "order(buy, 50, 50) = 0",
            "replace(0, 0, 1)" + ARGUMENT,
            "replace(0, 1, 0)" + ARGUMENT,
            "replace(0, 101, 100)" + ARGUMENT,
            "replace(0, 100, 101)" + ARGUMENT,
            "replace(0, -1, 50)" + ARGUMENT,
            "replace(0, 50, " + LEAST + ")" + ARGUMENT,
            "replace(0, " + GREATEST + ", 50)" + ARGUMENT,
            "underWay(0) = 0",
            "sent(TRADER) = 2",
            "replace(0, 1, 1) = 1",
            "replace(0, 1, 100) = 2",
            "replace(0, 100, 1) = 3",
            "replace(0, 100, 100) = 4",
            "settle()",
            "book(TRADER, 0) = 100 0 0 0",
            "book(HOUSE, 0) = 100 0 0 0");
    }

    private static void ordersOfQuestions() {
        EDGES.says("Throws `IndexOutOfBoundsException` if there is no such order");
        EDGES.says("Throws `IndexOutOfBoundsException` if there is no such side or order");
        for (String name : new String[] {"stateOf(", "isLeftOut(", "underWay(", "venues(", "left(TRADER, ", "left(HOUSE, ",
            "done(TRADER, ", "done(HOUSE, ", "doneByLog(TRADER, ", "doneByLog(HOUSE, ", "out(TRADER, ", "out(HOUSE, "}) {
            EDGES.run("orders of " + name + "order): none, one, and those around it",
                name + "0)" + INDEX,
                "on()",
                "order(buy, 9, 9) = 0",
                name + "-1)" + INDEX,
                name + "0)",
                name + "1)" + INDEX,
                name + "40)" + INDEX,
                name + LEAST + ")" + INDEX,
                name + GREATEST + ")" + INDEX);
        }
    }

    private static void stateOf() {
        EDGES.says("Returns what an order is for the trader. - `order`: its number Returns PENDING, LIVE or OVER.");
        EDGES.run("one behind the other",
            "on()",
            "order(buy, 9, 1) = 0",
            "stateOf(0) = PENDING",
            "come(HOUSE, 1) = 1",
            "stateOf(0) = PENDING",
            "come(TRADER, 1) = 1",
            "stateOf(0) = LIVE",
            "quote(0, buy, 9, 1) = 1",
            "stateOf(0) = LIVE",
            "come(TRADER, 1) = 1",
            "stateOf(0) = OVER");
        EDGES.says("Returns how many requests are under way for an order. - `order`: its number Returns 0 to 5.");
        EDGES.run("0, 1, 4, 5 and no more, then back to 0",
            "on()",
            "order(buy, 9, 9) = 0",
            "underWay(0) = 0",
            "cancel(0) = 1",
            "underWay(0) = 1",
            "3 times replace(0, 9, 9)",
            "underWay(0) = 4",
            "cancel(0) = 5",
            "underWay(0) = 5",
            "cancel(0)" + STATE,
            "underWay(0) = 5",
            "come(HOUSE, 100) = 6",
            "underWay(0) = 5",
            "come(TRADER, 5) = 5",
            "underWay(0) = 1",
            "come(TRADER, 1) = 1",
            "underWay(0) = 0");
    }

    private static void isLeftOut() {
        EDGES.says("Returns whether an order was left out of an answer, and is PENDING still. - `order`: its number Returns true if so.");
        EDGES.run("PENDING and not left out; left out and PENDING; another one",
            "on()",
            "order(buy, 9, 9) = 0",
            "isLeftOut(0) = false",
            "garble(HOUSE, 0) = 2",
            "come(HOUSE, 1) = 1",
            "pass(21) = 4",
            "order(buy, 9, 9) = 1",
            "come(HOUSE, 3) = 3",
            "isLeftOut(0) = false",
            "come(TRADER, 3) = 3",
            "isLeftOut(0) = true",
            "isLeftOut(1) = false",
            "settle()",
            "stateOf(1) = LIVE",
            "isLeftOut(1) = false",
            "stateOf(0) = PENDING",
            "isLeftOut(0) = true");
        EDGES.run("left out, and acknowledged then, as it has come all the same",
            "on()",
            "order(buy, 9, 9) = 0",
            "garble(HOUSE, 0) = 2",
            "order(buy, 9, 9) = 1",
            "come(HOUSE, 2) = 2",
            "pass(5) = 0",
            "order(buy, 9, 9) = 2",
            "come(HOUSE, 1) = 1",
            "come(TRADER, 1) = 1",
            "order(buy, 9, 9) = 3",
            "come(HOUSE, 4) = 4",
            "left(HOUSE, 3) = 9",
            "pass(21)",
            "come(TRADER, 1) = 1",
            "isLeftOut(3) = true",
            "isLeftOut(2) = false",
            "settle()",
            "stateOf(3) = LIVE",
            "isLeftOut(3) = false");
    }

    private static void quote() {
        EDGES.says("Throws `IndexOutOfBoundsException` if there is no such venue");
        EDGES.run("-1, 0, 2 and 3",
            "quote(-1, buy, 50, 50)" + INDEX,
            "quote(3, buy, 50, 50)" + INDEX,
            "quote(" + LEAST + ", buy, 50, 50)" + INDEX,
            "quote(" + GREATEST + ", sell, 50, 50)" + INDEX,
            "quote(0, buy, 50, 50) = 0",
            "quote(2, sell, 50, 50) = 0",
            "quoted(-1, buy)" + INDEX,
            "quoted(0, buy) = 50",
            "quoted(2, sell) = 50",
            "quoted(3, sell)" + INDEX,
            "quoted(" + LEAST + ", buy)" + INDEX,
            "quoted(" + GREATEST + ", sell)" + INDEX);
        EDGES.says("- `price`: 1 to 100 - `size`: 0 to 200 Returns how many executions are made by that.");
        EDGES.says("Throws `IllegalArgumentException` if price or size is out of range");
        EDGES.run("prices and sizes, the last in range and the first out of it",
            "quote(0, buy, 0, 50)" + ARGUMENT,
            "quote(0, buy, 101, 50)" + ARGUMENT,
            "quote(0, buy, " + LEAST + ", 50)" + ARGUMENT,
            "quote(0, buy, 50, -1)" + ARGUMENT,
            "quote(0, buy, 50, 201)" + ARGUMENT,
            "quote(0, buy, 50, " + GREATEST + ")" + ARGUMENT,
            "quoted(0, buy) = 0",
            "quote(0, buy, 1, 0) = 0",
            "quoted(0, buy) = 0",
            "quote(0, buy, 100, 200) = 0",
            "quoted(0, buy) = 200",
            "quote(2, sell, 1, 200) = 0",
            "quoted(2, sell) = 200",
            "quote(2, sell, 100, 1) = 0",
            "quoted(2, sell) = 1",
            "quote(2, sell, 100, 0) = 0",
            "quoted(2, sell) = 0");
        EDGES.says("Tells a quote of a venue, in place of the one before.");
        EDGES.run("the one before counts no more",
            "on()",
            "quote(0, buy, 9, 200) = 0",
            "quote(0, buy, 10, 3) = 0",
            "order(buy, 9, 9) = 0",
            "order(buy, 10, 9) = 1",
            "settle()",
            "done(HOUSE, 0) = 0",
            "done(HOUSE, 1) = 3");
        EDGES.says("Returns how many executions are made by that.");
        EDGES.run("none, one, one for each of three orders",
            "on()",
            "quote(0, buy, 9, 9) = 0",
            "quote(0, buy, 9, 0) = 0",
            "3 times order(buy, 9, 2)",
            "settle()",
            "quote(0, buy, 10, 9) = 0",
            "quote(0, buy, 9, 1) = 1",
            "quote(0, buy, 9, 200) = 3",
            "quoted(0, buy) = 195");
        EDGES.says("Returns what is left of it.");
        EDGES.run("all, some, nothing",
            "on()",
            "quote(0, buy, 9, 9) = 0",
            "quoted(0, buy) = 9",
            "order(buy, 9, 8) = 0",
            "settle()",
            "quoted(0, buy) = 1",
            "order(buy, 9, 8) = 1",
            "settle()",
            "quoted(0, buy) = 0");
    }

    private static void bust() {
        EDGES.says("Throws `IndexOutOfBoundsException` if there is no such execution");
        EDGES.run("-1, 0 and the one behind the last, of none and of one",
            "on()",
            "bust(0)" + INDEX,
            "correct(0, 1)" + INDEX,
            "quote(0, buy, 9, 4) = 0",
            "order(buy, 9, 9) = 0",
            "settle()",
            "bust(-1)" + INDEX,
            "bust(1)" + INDEX,
            "bust(" + LEAST + ")" + INDEX,
            "bust(" + GREATEST + ")" + INDEX,
            "correct(-1, 1)" + INDEX,
            "correct(1, 1)" + INDEX,
            "correct(" + LEAST + ", 1)" + INDEX,
            "correct(" + GREATEST + ", 1)" + INDEX,
            "correct(0, 1) = 9",
            "bust(0) = 0");
        EDGES.says("Busts an execution. - `execution`: its number Returns what is done of its order then, for the house.");
        EDGES.run("of two orders, one behind the other",
            "on()",
            "quote(0, buy, 9, 4) = 0",
            "2 times order(buy, 9, 9)",
            "settle()",
            "quote(0, buy, 9, 5) = 1",
            "quote(0, buy, 9, 1) = 1",
            "bust(0) = 5",
            "bust(0)" + STATE,
            "bust(1) = 0",
            "bust(2) = 0",
            "bust(3)" + INDEX);
        EDGES.says("Throws `IllegalStateException` if it is busted");
        EDGES.run("for the house, whether the trader knows it or not",
            "on()",
            "quote(0, buy, 9, 4) = 0",
            "order(buy, 9, 9) = 0",
            "come(HOUSE, 1) = 1",
            "bust(0) = 0",
            "bust(0)" + STATE,
            "correct(0, 1)" + STATE,
            "settle()",
            "bust(0)" + STATE,
            "correct(0, 9)" + STATE,
            "correct(0, 101)" + ARGUMENT);
    }

    private static void correct() {
        EDGES.says("- `price`: 1 to 100 Returns the price before.");
        EDGES.says("Throws `IllegalArgumentException` if price is out of range");
        EDGES.run("0, 1, 100 and 101",
            "on()",
            "quote(0, buy, 9, 4) = 0",
            "order(buy, 9, 9) = 0",
            "settle()",
            "correct(0, 0)" + ARGUMENT,
            "correct(0, 101)" + ARGUMENT,
            "correct(0, -1)" + ARGUMENT,
            "correct(0, " + LEAST + ")" + ARGUMENT,
            "correct(0, " + GREATEST + ")" + ARGUMENT,
            "total(HOUSE, 0, buy, 1) = 36",
            "sent(HOUSE) = 3",
            "correct(0, 1) = 9",
            "correct(0, 100) = 1");
        EDGES.says("Gives an execution another price, perhaps the same one.");
        EDGES.run("the same one is reported too",
            "on()",
            "quote(0, buy, 9, 4) = 0",
            "order(buy, 9, 9) = 0",
            "settle()",
            "correct(0, 9) = 9",
            "correct(0, 10) = 9",
            "correct(0, 10) = 10",
            "sent(HOUSE) = 6");
        EDGES.says("Returns the price before.");
        EDGES.run("that of the house, also when the trader does not know it yet",
            "on()",
            "quote(0, buy, 8, 4) = 0",
            "order(buy, 9, 9) = 0",
            "settle()",
            "correct(0, 7) = 8",
            "correct(0, 6) = 7",
            "total(TRADER, 0, buy, 1) = 32");
    }

    private static void counts() {
        EDGES.says("Returns how many executions there are, busted ones included.");
        EDGES.run("none, one, one that is busted, two",
            "on()",
            "executions() = 0",
            "order(buy, 9, 9) = 0",
            "settle()",
            "quote(0, buy, 9, 4) = 1",
            "executions() = 1",
            "bust(0) = 0",
            "executions() = 1",
            "quote(0, buy, 9, 4) = 1",
            "executions() = 2");
        EDGES.says("Ends the day. Returns the day then.");
        EDGES.run("one behind the other, the line up or down, reset or not",
            "endDay() = 1",
            "connect(reset)",
            "endDay() = 2",
            "cut() = 2",
            "endDay() = 3",
            "pass(50) = 0",
            "97 times endDay()",
            "endDay() = 101");
        EDGES.says("Returns how many orders the trader has sent. Returns 0 to 40.");
        EDGES.run("0 to 40, whether they have come or not",
            "orders() = 0",
            "on()",
            "orders() = 0",
            "order(buy, 9, 9) = 0",
            "orders() = 1",
            "cut() = 1",
            "orders() = 1",
            "connect(reset)",
            "settle()",
            "39 times order(sell, 9, 9)",
            "orders() = 40",
            "order(sell, 9, 9)" + STATE,
            "orders() = 40");
    }

    private static void books() {
        EDGES.says("Returns what is left, for the TRADER perhaps below 0, when reports were lost by a reset; NONE if the HOUSE does"
            + " not have it.");
        EDGES.run("1, 0 and below 0",
            "on()",
            "order(buy, 9, 2) = 0",
            "settle()",
            "replace(0, 9, 9) = 1",
            "come(HOUSE, 1) = 1",
            "cut() = 1",
            "connect(reset)",
            "settle()",
            "quote(0, buy, 9, 1) = 1",
            "settle()",
            "left(TRADER, 0) = 1",
            "quote(0, buy, 9, 1) = 1",
            "settle()",
            "left(TRADER, 0) = 0",
            "quote(0, buy, 9, 1) = 1",
            "settle()",
            "left(TRADER, 0) = -1",
            "left(HOUSE, 0) = 6");
        EDGES.says("Returns what is done; NONE if the HOUSE does not have it.");
        EDGES.says("Returns what is out; NONE if the HOUSE does not have it.");
        EDGES.run("NONE for the HOUSE, not for the TRADER",
            "on()",
            "order(buy, 9, 2) = 0",
            "left(HOUSE, 0) = NONE",
            "left(TRADER, 0) = 0",
            "done(HOUSE, 0) = NONE",
            "done(TRADER, 0) = 0",
            "doneByLog(HOUSE, 0) = NONE",
            "doneByLog(TRADER, 0) = 0",
            "out(HOUSE, 0) = NONE",
            "out(TRADER, 0) = 0");
        EDGES.says("Throws `IndexOutOfBoundsException` if there is no such side or order");
        for (String name : new String[] {"left(", "done(", "doneByLog(", "out("}) {
            EDGES.run("sides of " + name + "side, order)",
                "on()",
                "order(buy, 9, 9) = 0",
                name + "-1, 0)" + INDEX,
                name + "2, 0)" + INDEX,
                name + LEAST + ", 0)" + INDEX,
                name + GREATEST + ", 0)" + INDEX);
        }
        EDGES.says("Returns the same, found from the executions that the side knows, busted ones left aside.");
        EDGES.run("none, one, two, and one of them busted",
            "on()",
            "order(buy, 9, 9) = 0",
            "order(buy, 9, 9) = 1",
            "settle()",
            "doneByLog(HOUSE, 0) = 0",
            "quote(0, buy, 9, 4) = 1",
            "doneByLog(HOUSE, 0) = 4",
            "doneByLog(TRADER, 0) = 0",
            "come(TRADER, 1) = 1",
            "doneByLog(TRADER, 0) = 4",
            "quote(0, buy, 9, 3) = 1",
            "settle()",
            "doneByLog(TRADER, 0) = 7",
            "bust(0) = 3",
            "doneByLog(HOUSE, 0) = 3",
            "doneByLog(TRADER, 0) = 7",
            "come(TRADER, 1) = 1",
            "doneByLog(TRADER, 0) = 3",
            "doneByLog(TRADER, 1) = 0");
    }

    private static void venues() {
        EDGES.says("Returns how many venues have executed something of an order, for the house, busted executions included.");
        EDGES.says("Returns 0 to 3.");
        EDGES.run("0 to 3, one of them twice, all busted",
            "on()",
            "order(buy, 9, 9) = 0",
            "venues(0) = 0",
            "come(HOUSE, 1) = 1",
            "venues(0) = 0",
            "quote(2, buy, 9, 1) = 1",
            "venues(0) = 1",
            "quote(2, buy, 9, 1) = 1",
            "venues(0) = 1",
            "quote(0, buy, 9, 1) = 1",
            "venues(0) = 2",
            "quote(1, buy, 9, 1) = 1",
            "venues(0) = 3",
            "bust(0) = 3",
            "bust(1) = 2",
            "bust(2) = 1",
            "bust(3) = 0",
            "venues(0) = 3");
        EDGES.run("of that order alone",
            "on()",
            "2 times order(buy, 9, 9)",
            "settle()",
            "quote(0, buy, 9, 9) = 1",
            "quote(1, buy, 9, 9) = 1",
            "venues(0) = 1",
            "venues(1) = 1");
    }

    private static void total() {
        EDGES.says("- `day`: 0 to the day of now");
        EDGES.run("-1, 0, now and one more",
            "total(TRADER, -1, buy, 0)" + INDEX,
            "total(TRADER, 0, buy, 0) = 0",
            "total(TRADER, 1, buy, 0)" + INDEX,
            "endDay() = 1",
            "total(TRADER, 0, buy, 0) = 0",
            "total(HOUSE, 1, sell, 1) = 0",
            "total(HOUSE, 2, sell, 1)" + INDEX,
            "total(HOUSE, " + LEAST + ", sell, 1)" + INDEX,
            "total(HOUSE, " + GREATEST + ", sell, 1)" + INDEX);
        EDGES.says("- `what`: 0 for the sizes, 1 for the sizes times the prices Returns the sum.");
        EDGES.says("Throws `IllegalArgumentException` if what is out of range");
        EDGES.run("-1, 0, 1 and 2",
            "endDay() = 1",
            "total(HOUSE, 1, sell, 0) = 0",
            "total(HOUSE, 1, sell, 1) = 0",
            "total(HOUSE, 1, sell, -1)" + ARGUMENT,
            "total(HOUSE, 1, sell, 2)" + ARGUMENT,
            "total(HOUSE, 1, sell, " + LEAST + ")" + ARGUMENT,
            "total(HOUSE, 1, sell, " + GREATEST + ")" + ARGUMENT);
        EDGES.says("Returns what was bought or sold by the executions of a day that a side knows, busted ones left aside.");
        EDGES.run("bought and sold, sizes and sizes times prices, one, two and one busted",
            "on()",
            "order(buy, 50, 50) = 0",
            "order(sell, 50, 50) = 1",
            "order(buy, 50, 50) = 2",
            "settle()",
            "quote(0, buy, 40, 7) = 1",
            "total(HOUSE, 0, buy, 0) = 7",
            "total(HOUSE, 0, buy, 1) = 280",
            "total(HOUSE, 0, sell, 0) = 0",
            "total(TRADER, 0, buy, 0) = 0",
            "quote(0, sell, 60, 5) = 1",
            "total(HOUSE, 0, sell, 0) = 5",
            "total(HOUSE, 0, sell, 1) = 300",
            "quote(0, buy, 39, 100) = 2",
            "total(HOUSE, 0, buy, 0) = 100",
            "total(HOUSE, 0, buy, 1) = 3907",
            "settle()",
            "total(TRADER, 0, buy, 0) = 100",
            "total(TRADER, 0, buy, 1) = 3907",
            "bust(0) = 43",
            "total(HOUSE, 0, buy, 0) = 93",
            "total(TRADER, 0, buy, 0) = 100",
            "settle()",
            "total(TRADER, 0, buy, 0) = 93",
            "total(TRADER, 0, buy, 1) = 3627");
        EDGES.run("the greatest sum",
            "on()",
            "40 times order(sell, 1, 100)",
            "settle()",
            "20 times quote(0, sell, 100, 200) = 2",
            "executions() = 40",
            "total(HOUSE, 0, sell, 0) = 4000",
            "total(HOUSE, 0, sell, 1) = 400000");
    }

    private static void agree() {
        EDGES.says("Returns whether both books are the same for each order that the house has: what is left, done and out.");
        EDGES.run("no order; one that the house has not",
            "agree() = true",
            "on()",
            "agree() = true",
            "order(buy, 9, 9) = 0",
            "agree() = true",
            "come(HOUSE, 1) = 1",
            "agree() = false",
            "come(TRADER, 1) = 1",
            "agree() = true");
        EDGES.run("what is left differs alone",
            "on()",
            "order(buy, 9, 9) = 0",
            "replace(0, 9, 8) = 1",
            "come(HOUSE, 2) = 2",
            "come(TRADER, 1) = 1",
            "agree() = false",
            "come(TRADER, 1) = 1",
            "agree() = true",
            "replace(0, 8, 8) = 1",
            "come(HOUSE, 1) = 1",
            "agree() = true");
        EDGES.run("done and out differ, left does not",
            "on()",
            "quote(0, buy, 9, 9) = 0",
            "order(buy, 9, 9) = 0",
            "settle()",
            "agree() = true",
            "bust(0) = 0",
            "agree() = false",
            "settle()",
            "agree() = true");
        EDGES.run("done differs and left, out does not",
            "on()",
            "order(buy, 9, 9) = 0",
            "settle()",
            "quote(0, buy, 9, 1) = 1",
            "agree() = false");
        EDGES.run("out differs, and left and done do not: the order is PENDING for the trader",
            "on()",
            "order(buy, 9, 9) = 0",
            "come(HOUSE, 1) = 1",
            "cut() = 1",
            "connect(reset)",
            "settle()",
            "cancel(0) = 1",
            "come(HOUSE, 1) = 1",
            "agree() = false",
            "come(TRADER, 1) = 1",
            "agree() = true");
        EDGES.run("done differs, and left and out do not: the order is PENDING for the trader",
            "on()",
            "quote(0, buy, 9, 9) = 0",
            "order(buy, 9, 9) = 0",
            "come(HOUSE, 1) = 1",
            "cut() = 2",
            "connect(reset)",
            "settle()",
            "left(TRADER, 0) = 0",
            "left(HOUSE, 0) = 0",
            "out(TRADER, 0) = 0",
            "out(HOUSE, 0) = 0",
            "agree() = false");
        EDGES.run("the first of many, the last of many",
            "on()",
            "40 times order(buy, 9, 9)",
            "settle()",
            "agree() = true",
            "cancel(0) = 1",
            "come(HOUSE, 1) = 1",
            "agree() = false",
            "settle()",
            "agree() = true",
            "cancel(39) = 1",
            "come(HOUSE, 1) = 1",
            "agree() = false");
    }
}
