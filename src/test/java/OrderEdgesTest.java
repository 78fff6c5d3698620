/** The edges that the document names under "Orders". */
public final class OrderEdgesTest {
    private static final Edges EDGES = new Edges("OrderEdgesTest");

    public static void main(String[] args) {
        atMostForty();
        buysOrSells();
        books();
        pending();
        liveOrOver();
        liveAgain();
        houseHasIt();
        houseTakesIt();
        cancel();
        cancelOfNone();
        replace();
        replaceRefused();
        replaceRouted();
        requests();
        EDGES.end();
    }

    private static void atMostForty() {
        EDGES.says("Orders are numbered from 0, at most 40.");
        EDGES.run("none and one",
            "on()",
            "orders() = 0",
            "stateOf(0) = IndexOutOfBoundsException",
            "order(buy, 9, 9) = 0",
            "orders() = 1",
            "stateOf(0) = PENDING",
            "stateOf(1) = IndexOutOfBoundsException");
        EDGES.run("39, 40 and one more",
            "on()",
            "39 times order(buy, 9, 9)",
            "order(sell, 100, 100) = 39",
            "orders() = 40",
            "stateOf(39) = PENDING",
            "stateOf(40) = IndexOutOfBoundsException",
            "order(sell, 100, 100) = IllegalStateException",
            "orders() = 40",
            "onWay(HOUSE) = 40");
        EDGES.run("those that are OVER count, and a reset changes nothing",
            "on()",
            "40 times order(buy, 9, 9)",
            "settle()",
            "cancel(0) = 1",
            "settle()",
            "stateOf(0) = OVER",
            "order(buy, 9, 9) = IllegalStateException",
            "cut() = 0",
            "connect(reset)",
            "settle()",
            "order(buy, 9, 9) = IllegalStateException",
            "orders() = 40");
    }

    private static void buysOrSells() {
        EDGES.says("An order buys or sells, with a price and a size.");
        EDGES.run("both directions, a price that trades and one that does not, sizes above and below that of the quote",
            "on()",
            "quote(0, buy, 50, 3) = 0",
            "quote(0, sell, 50, 9) = 0",
            "order(buy, 49, 9) = 0",
            "order(sell, 51, 9) = 1",
            "order(buy, 50, 9) = 2",
            "order(sell, 50, 8) = 3",
            "settle()",
            "book(HOUSE, 0) = 9 0 0 0",
            "book(HOUSE, 1) = 9 0 0 0",
            "book(HOUSE, 2) = 6 3 3 0",
            "book(HOUSE, 3) = 0 8 8 0");
    }

    private static void books() {
        EDGES.says("Each side has its own book of it: the price, the size, what is done, what is out, and what is left:"
            + " the size less both.");
        EDGES.run("of a size of 1, done",
            "on()",
            "order(buy, 1, 1) = 0",
            "settle()",
            "book(TRADER, 0) = 1 0 0 0",
            "book(HOUSE, 0) = 1 0 0 0",
            "quote(0, buy, 1, 200) = 1",
            "book(TRADER, 0) = 1 0 0 0",
            "book(HOUSE, 0) = 0 1 1 0",
            "settle()",
            "book(TRADER, 0) = 0 1 1 0");
        EDGES.run("of a size of 100, done and out",
            "on()",
            "order(sell, 100, 100) = 0",
            "settle()",
            "quote(2, sell, 100, 99) = 1",
            "settle()",
            "book(TRADER, 0) = 1 99 99 0",
            "bust(0) = 0",
            "book(TRADER, 0) = 1 99 99 0",
            "book(HOUSE, 0) = 1 0 0 99",
            "settle()",
            "book(TRADER, 0) = 1 0 0 99");
    }

    private static void pending() {
        EDGES.says("The TRADER has an order PENDING in its book until it was acknowledged by a REPORT, with nothing left until"
            + " then, whatever other REPORTs tell of it;");
        EDGES.run("until the ACK comes to the trader",
            "on()",
            "order(buy, 9, 10) = 0",
            "stateOf(0) = PENDING",
            "book(TRADER, 0) = 0 0 0 0",
            "come(HOUSE, 1) = 1",
            "stateOf(0) = PENDING",
            "book(TRADER, 0) = 0 0 0 0",
            "come(TRADER, 1) = 1",
            "stateOf(0) = LIVE",
            "book(TRADER, 0) = 10 0 0 0");
        EDGES.run("the ACK is lost by a reset: every other REPORT leaves it PENDING, but counts",
            "on()",
            "order(buy, 9, 10) = 0",
            "come(HOUSE, 1) = 1",
            "cut() = 1",
            "connect(reset)",
            "settle()",
            "quote(0, buy, 9, 2) = 1",
            "settle()",
            "stateOf(0) = PENDING",
            "book(TRADER, 0) = 0 2 2 0",
            "bust(0) = 0",
            "settle()",
            "stateOf(0) = PENDING",
            "book(TRADER, 0) = 0 0 0 2",
            "quote(0, buy, 9, 3) = 1",
            "correct(1, 8) = 9",
            "settle()",
            "stateOf(0) = PENDING",
            "total(TRADER, 0, buy, 1) = 24",
            "replace(0, 9, 12) = 1",
            "settle()",
            "stateOf(0) = PENDING",
            "book(TRADER, 0) = 0 3 3 2",
            "book(HOUSE, 0) = 7 3 3 2",
            "cancel(0) = 1",
            "settle()",
            "stateOf(0) = PENDING",
            "book(TRADER, 0) = 0 3 3 9",
            "cancel(0) = 1",
            "settle()",
            "underWay(0) = 0",
            "stateOf(0) = PENDING",
            "book(TRADER, 0) = 0 3 3 9",
            "agree() = true");
    }

    private static void liveOrOver() {
        EDGES.says("behind that it is LIVE as long as something is left, otherwise OVER.");
        EDGES.run("1 left, then none, by executions",
            "on()",
            "order(buy, 9, 10) = 0",
            "settle()",
            "quote(0, buy, 9, 9) = 1",
            "settle()",
            "left(TRADER, 0) = 1",
            "stateOf(0) = LIVE",
            "quote(0, buy, 9, 1) = 1",
            "stateOf(0) = LIVE",
            "settle()",
            "left(TRADER, 0) = 0",
            "stateOf(0) = OVER",
            "cancel(0) = IllegalStateException",
            "replace(0, 9, 100) = IllegalStateException");
        EDGES.run("none left by an OUT",
            "on()",
            "order(buy, 9, 10) = 0",
            "settle()",
            "cancel(0) = 1",
            "come(HOUSE, 1) = 1",
            "stateOf(0) = LIVE",
            "come(TRADER, 1) = 1",
            "stateOf(0) = OVER");
        EDGES.run("a bust brings nothing back",
            "on()",
            "order(buy, 9, 10) = 0",
            "quote(0, buy, 9, 10) = 0",
            "settle()",
            "stateOf(0) = OVER",
            "bust(0) = 0",
            "settle()",
            "stateOf(0) = OVER",
            "book(TRADER, 0) = 0 0 0 10");
        EDGES.run("less than nothing left, when a REPLACED was lost by a reset",
            "on()",
            "order(buy, 9, 10) = 0",
            "settle()",
            "replace(0, 9, 30) = 1",
            "come(HOUSE, 1) = 1",
            "cut() = 1",
            "connect(reset)",
            "settle()",
            "quote(0, buy, 9, 11) = 1",
            "settle()",
            "left(TRADER, 0) = -1",
            "left(HOUSE, 0) = 19",
            "stateOf(0) = OVER",
            "agree() = false");
    }

    private static void liveAgain() {
        EDGES.run("LIVE again when something is left again",
            "on()",
            "order(buy, 9, 10) = 0",
            "settle()",
            "replace(0, 9, 30) = 1",
            "come(HOUSE, 1) = 1",
            "cut() = 1",
            "connect(reset)",
            "settle()",
            "quote(0, buy, 9, 10) = 1",
            "replace(0, 9, 25) = 2",
            "come(TRADER, 1) = 1",
            "left(TRADER, 0) = 0",
            "stateOf(0) = OVER",
            "cancel(0) = IllegalStateException",
            "come(HOUSE, 1) = 1",
            "come(TRADER, 1) = 1",
            "left(TRADER, 0) = 15",
            "stateOf(0) = LIVE",
            "underWay(0) = 1",
            "cancel(0) = 2");
    }

    private static void houseHasIt() {
        EDGES.says("The HOUSE has it in its book from the ORDER on.");
        EDGES.run("not before",
            "on()",
            "order(buy, 9, 10) = 0",
            "book(HOUSE, 0) = -1 -1 -1 -1",
            "left(HOUSE, 0) = NONE",
            "done(HOUSE, 0) = NONE",
            "doneByLog(HOUSE, 0) = NONE",
            "out(HOUSE, 0) = NONE",
            "venues(0) = 0",
            "agree() = true",
            "quote(0, buy, 1, 5) = 0",
            "come(HOUSE, 1) = 1",
            "book(HOUSE, 0) = 5 5 5 0",
            "venues(0) = 1",
            "agree() = false");
        EDGES.run("not while it is held back",
            "on()",
            "2 times order(buy, 9, 10)",
            "garble(HOUSE, 0) = 2",
            "come(HOUSE, 2) = 2",
            "left(HOUSE, 1) = NONE",
            "quote(0, buy, 1, 5) = 0");
        EDGES.run("for good, the line down or reset",
            "on()",
            "order(buy, 9, 10) = 0",
            "come(HOUSE, 1) = 1",
            "cut() = 1",
            "left(HOUSE, 0) = 10",
            "connect(reset)",
            "left(HOUSE, 0) = 10");
    }

    private static void houseTakesIt() {
        EDGES.says("The HOUSE works off: - an ORDER, if it has it not in its book: it is in its book then, with all of its size left;"
            + " an ACK is reported; then it is routed;");
        EDGES.run("no quote to trade with: an ACK alone",
            "on()",
            "order(buy, 9, 10) = 0",
            "come(HOUSE, 1) = 1",
            "book(HOUSE, 0) = 10 0 0 0",
            "sent(HOUSE) = 2",
            "message(HOUSE, 2) = 35=8 34=2 150=0 37=0 10=10");
        EDGES.run("a quote: the ACK ahead of the FILLED",
            "on()",
            "quote(0, sell, 9, 4) = 0",
            "order(sell, 9, 10) = 0",
            "come(HOUSE, 1) = 1",
            "book(HOUSE, 0) = 6 4 4 0",
            "sent(HOUSE) = 3",
            "valueAt(HOUSE, 2, 2) = ACK",
            "valueAt(HOUSE, 3, 2) = FILLED");
    }

    private static void cancel() {
        EDGES.says("a CANCEL: if nothing of the order is left, or it does not have it, REFUSED is reported; otherwise what is left"
            + " is out, and OUT is reported;");
        EDGES.run("1 is left",
            "on()",
            "quote(0, buy, 9, 9) = 0",
            "order(buy, 9, 10) = 0",
            "cancel(0) = 1",
            "come(HOUSE, 2) = 2",
            "book(HOUSE, 0) = 0 9 9 1",
            "last(HOUSE) = 35=8 34=4 150=2 37=0 32=1 10=47");
        EDGES.run("all is left",
            "on()",
            "order(buy, 9, 100) = 0",
            "cancel(0) = 1",
            "come(HOUSE, 2) = 2",
            "book(HOUSE, 0) = 0 0 0 100",
            "last(HOUSE) = 35=8 34=3 150=2 37=0 32=100 10=145");
        EDGES.run("nothing is left, as it is done",
            "on()",
            "quote(0, buy, 9, 10) = 0",
            "order(buy, 9, 10) = 0",
            "cancel(0) = 1",
            "come(HOUSE, 2) = 2",
            "book(HOUSE, 0) = 0 10 10 0",
            "last(HOUSE) = 35=8 34=4 150=4 37=0 10=16");
        EDGES.run("nothing is left, as it is out",
            "on()",
            "order(buy, 9, 10) = 0",
            "cancel(0) = 1",
            "cancel(0) = 2",
            "come(HOUSE, 3) = 3",
            "book(HOUSE, 0) = 0 0 0 10",
            "last(HOUSE) = 35=8 34=4 150=4 37=0 10=16");
        EDGES.run("nothing is left, as it is done and busted",
            "on()",
            "quote(0, buy, 9, 10) = 0",
            "order(buy, 9, 10) = 0",
            "come(HOUSE, 1) = 1",
            "bust(0) = 0",
            "cancel(0) = 1",
            "come(HOUSE, 1) = 1",
            "book(HOUSE, 0) = 0 0 0 10",
            "last(HOUSE) = 35=8 34=5 150=4 37=0 10=17");
    }

    private static void cancelOfNone() {
        EDGES.run("it does not have it, a CANCEL and a REPLACE",
            "on()",
            "order(buy, 9, 10) = 0",
            "cut() = 1",
            "connect(reset)",
            "settle()",
            "cancel(0) = 1",
            "replace(0, 9, 100) = 2",
            "come(HOUSE, 1) = 1",
            "last(HOUSE) = 35=8 34=2 150=4 37=0 10=14",
            "come(HOUSE, 1) = 1",
            "last(HOUSE) = 35=8 34=3 150=4 37=0 10=15",
            "left(HOUSE, 0) = NONE",
            "settle()",
            "underWay(0) = 0",
            "stateOf(0) = PENDING");
    }

    private static void replace() {
        EDGES.says("a REPLACE: if nothing of the order is left, it does not have it, or the new size is not greater than what is"
            + " done and out, together, REFUSED is reported; otherwise it has the new price and size,");
        for (int size = 6; size <= 8; size++) {
            EDGES.run("4 done and 3 out, the new size is " + size,
                "on()",
                "order(buy, 9, 20) = 0",
                "settle()",
                "quote(0, buy, 9, 3) = 1",
                "bust(0) = 0",
                "quote(0, buy, 9, 4) = 1",
                "book(HOUSE, 0) = 13 4 4 3",
                "replace(0, 5, " + size + ") = 1",
                "come(HOUSE, 1) = 1",
                "book(HOUSE, 0) = " + (size <= 7 ? "13 4 4 3" : "1 4 4 3"),
                "valueAt(HOUSE, 6, 2) = " + (size <= 7 ? "REFUSED" : "REPLACED"),
                "quote(1, buy, 6, 1) = " + (size <= 7 ? 1 : 0));
        }
        EDGES.run("nothing done and out, the new size is 1",
            "on()",
            "order(sell, 9, 20) = 0",
            "settle()",
            "replace(0, 9, 1) = 1",
            "settle()",
            "book(HOUSE, 0) = 1 0 0 0",
            "book(TRADER, 0) = 1 0 0 0");
        EDGES.run("the same price and size",
            "on()",
            "order(sell, 9, 20) = 0",
            "replace(0, 9, 20) = 1",
            "come(HOUSE, 2) = 2",
            "last(HOUSE) = 35=8 34=3 150=3 37=0 44=9 38=20 10=125");
    }

    private static void replaceRefused() {
        EDGES.run("nothing is left, though the new size is greater",
            "on()",
            "quote(0, buy, 9, 10) = 0",
            "order(buy, 9, 10) = 0",
            "replace(0, 9, 100) = 1",
            "come(HOUSE, 2) = 2",
            "book(HOUSE, 0) = 0 10 10 0",
            "last(HOUSE) = 35=8 34=4 150=4 37=0 10=16");
        EDGES.run("1 is left",
            "on()",
            "quote(0, buy, 9, 9) = 0",
            "order(buy, 9, 10) = 0",
            "replace(0, 8, 100) = 1",
            "come(HOUSE, 2) = 2",
            "book(HOUSE, 0) = 91 9 9 0");
        EDGES.run("it is out",
            "on()",
            "order(buy, 9, 10) = 0",
            "cancel(0) = 1",
            "replace(0, 9, 100) = 2",
            "come(HOUSE, 3) = 3",
            "book(HOUSE, 0) = 0 0 0 10",
            "last(HOUSE) = 35=8 34=4 150=4 37=0 10=16");
    }

    private static void replaceRouted() {
        EDGES.says("and comes behind all others of its price in rank; REPLACED is reported; then it is routed.");
        EDGES.run("the new price just meets a quote, the FILLED behind the REPLACED",
            "on()",
            "quote(0, buy, 50, 5) = 0",
            "order(buy, 49, 10) = 0",
            "come(HOUSE, 1) = 1",
            "executions() = 0",
            "replace(0, 50, 11) = 1",
            "come(HOUSE, 1) = 1",
            "executions() = 1",
            "book(HOUSE, 0) = 6 5 5 0",
            "valueAt(HOUSE, 3, 2) = REPLACED",
            "valueAt(HOUSE, 4, 2) = FILLED");
        EDGES.run("behind the others of its price, whether it had that price or comes to it",
            "on()",
            "3 times order(buy, 50, 5)",
            "order(buy, 51, 5) = 3",
            "replace(0, 50, 5) = 1",
            "replace(3, 50, 5) = 1",
            "settle()",
            "quote(0, buy, 50, 5) = 1",
            "left(HOUSE, 1) = 0",
            "quote(0, buy, 50, 5) = 1",
            "left(HOUSE, 2) = 0",
            "quote(0, buy, 50, 5) = 1",
            "left(HOUSE, 0) = 0",
            "left(HOUSE, 3) = 5");
        EDGES.run("a refused REPLACE leaves it in its rank",
            "on()",
            "2 times order(sell, 50, 5)",
            "settle()",
            "quote(0, sell, 50, 2) = 1",
            "replace(0, 50, 2) = 1",
            "settle()",
            "quote(0, sell, 50, 1) = 1",
            "left(HOUSE, 0) = 2",
            "left(HOUSE, 1) = 5");
        EDGES.run("ahead of those of a worse price, behind those of a better one",
            "on()",
            "order(sell, 49, 5) = 0",
            "order(sell, 51, 5) = 1",
            "order(sell, 60, 5) = 2",
            "replace(2, 50, 5) = 1",
            "settle()",
            "quote(0, sell, 60, 6) = 2",
            "left(HOUSE, 0) = 0",
            "left(HOUSE, 2) = 4",
            "left(HOUSE, 1) = 5");
    }

    private static void requests() {
        EDGES.says("A request of the TRADER, a CANCEL or REPLACE, is under way until OUT, REPLACED or REFUSED is worked off for"
            + " the order: each of these answers one, if one is under way.");
        EDGES.run("none, one, five and one more",
            "on()",
            "order(buy, 9, 9) = 0",
            "underWay(0) = 0",
            "cancel(0) = 1",
            "underWay(0) = 1",
            "replace(0, 9, 9) = 2",
            "cancel(0) = 3",
            "replace(0, 9, 9) = 4",
            "cancel(0) = 5",
            "underWay(0) = 5",
            "cancel(0) = IllegalStateException",
            "replace(0, 9, 9) = IllegalStateException",
            "underWay(0) = 5",
            "come(HOUSE, 3) = 3",
            "underWay(0) = 5",
            "come(TRADER, 1) = 1",
            "underWay(0) = 5",
            "come(TRADER, 1) = 1",
            "underWay(0) = 4");
        EDGES.run("OUT, REPLACED and REFUSED answer one each",
            "on()",
            "order(buy, 9, 9) = 0",
            "settle()",
            "replace(0, 8, 8) = 1",
            "cancel(0) = 2",
            "cancel(0) = 3",
            "come(HOUSE, 3) = 3",
            "come(TRADER, 1) = 1",
            "underWay(0) = 2",
            "come(TRADER, 1) = 1",
            "underWay(0) = 1",
            "come(TRADER, 1) = 1",
            "underWay(0) = 0");
        EDGES.run("ACK, FILLED, BUSTED and CORRECTED answer none; those of another order neither",
            "on()",
            "order(buy, 9, 9) = 0",
            "order(buy, 9, 9) = 1",
            "cancel(1) = 1",
            "replace(0, 9, 9) = 1",
            "quote(0, buy, 9, 5) = 0",
            "come(HOUSE, 1) = 1",
            "correct(0, 1) = 9",
            "bust(0) = 0",
            "come(TRADER, 4) = 4",
            "underWay(0) = 1",
            "come(HOUSE, 2) = 2",
            "come(TRADER, 2) = 2",
            "underWay(1) = 0",
            "underWay(0) = 1");
        EDGES.run("one whose answer a reset has lost stays under way",
            "on()",
            "order(buy, 9, 9) = 0",
            "settle()",
            "cancel(0) = 1",
            "come(HOUSE, 1) = 1",
            "cut() = 1",
            "connect(reset)",
            "settle()",
            "underWay(0) = 1",
            "stateOf(0) = LIVE",
            "cancel(0) = 2",
            "settle()",
            "underWay(0) = 1");
    }
}
