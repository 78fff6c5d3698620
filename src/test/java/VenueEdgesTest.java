/** The edges that the document names under "Venues and routing". */
public final class VenueEdgesTest {
    private static final Edges EDGES = new Edges("VenueEdgesTest");

    public static void main(String[] args) {
        venues();
        zeroAtFirst();
        sizeAboveZero();
        atMostOrAtLeast();
        bestQuote();
        greatestSize();
        lowestVenue();
        lesserOfBoth();
        oneFilled();
        ranksOfBuyers();
        ranksOfSellers();
        ofWhichSomethingIsLeft();
        atMostHundred();
        hundredInTheMidst();
        bustedOrCorrected();
        days();
        EDGES.end();
    }

    private static void venues() {
        EDGES.says("There are the venues 0 to 2.");
        EDGES.run("the first, the last and those behind them",
            "quote(-1, buy, 1, 1) = IndexOutOfBoundsException",
            "quote(0, buy, 1, 1) = 0",
            "quote(2, buy, 1, 1) = 0",
            "quote(3, buy, 1, 1) = IndexOutOfBoundsException",
            "quoted(-1, buy) = IndexOutOfBoundsException",
            "quoted(0, buy) = 1",
            "quoted(2, buy) = 1",
            "quoted(3, buy) = IndexOutOfBoundsException");
    }

    private static void zeroAtFirst() {
        EDGES.says("Each has a quote for those who buy, and one for those who sell, with a price and a size, both 0 at first.");
        EDGES.run("six quotes of nothing",
            "quoted(0, buy) = 0",
            "quoted(1, buy) = 0",
            "quoted(2, buy) = 0",
            "quoted(0, sell) = 0",
            "quoted(1, sell) = 0",
            "quoted(2, sell) = 0");
        EDGES.run("with which nothing trades",
            "on()",
            "order(buy, 100, 1) = 0",
            "order(sell, 1, 1) = 1",
            "settle()",
            "executions() = 0");
        EDGES.run("each by itself",
            "quote(1, sell, 50, 7) = 0",
            "quoted(1, sell) = 7",
            "quoted(1, buy) = 0",
            "quoted(0, sell) = 0",
            "quoted(2, sell) = 0");
    }

    private static void sizeAboveZero() {
        EDGES.says("An order can trade with a quote of its direction with a size above 0, if the price of the quote is at most that"
            + " of the order, to buy, or at least, to sell.");
        EDGES.run("a size of 0 and of 1",
            "on()",
            "order(buy, 50, 5) = 0",
            "settle()",
            "quote(0, buy, 50, 0) = 0",
            "sent(HOUSE) = 2",
            "quote(0, buy, 50, 1) = 1",
            "left(HOUSE, 0) = 4",
            "quoted(0, buy) = 0");
        EDGES.run("a quote of the other direction",
            "on()",
            "order(buy, 50, 5) = 0",
            "order(sell, 50, 5) = 1",
            "settle()",
            "quote(0, buy, 50, 9) = 1",
            "left(HOUSE, 0) = 0",
            "left(HOUSE, 1) = 5",
            "quoted(0, buy) = 4",
            "quote(0, sell, 50, 5) = 1",
            "left(HOUSE, 1) = 0");
    }

    private static void atMostOrAtLeast() {
        for (int price = 49; price <= 51; price++) {
            EDGES.run("a quote of " + price + " for an order of 50, told ahead of it or behind",
                "on()",
                "order(buy, 50, 5) = 0",
                "order(sell, 50, 5) = 1",
                "settle()",
                "quote(0, buy, " + price + ", 1) = " + (price <= 50 ? 1 : 0),
                "quote(0, sell, " + price + ", 1) = " + (price >= 50 ? 1 : 0),
                "quote(1, buy, " + price + ", 1) = " + (price <= 50 ? 1 : 0),
                "order(buy, 50, 1) = 2",
                "order(sell, 50, 1) = 3",
                "settle()",
                "executions() = " + (price == 50 ? 3 : price < 50 ? 2 : 1));
        }
        EDGES.run("the least and the greatest prices",
            "on()",
            "order(buy, 1, 5) = 0",
            "order(sell, 100, 5) = 1",
            "settle()",
            "quote(0, buy, 2, 1) = 0",
            "quote(0, buy, 1, 1) = 1",
            "quote(0, sell, 99, 1) = 0",
            "quote(0, sell, 100, 1) = 1");
    }

    private static void bestQuote() {
        EDGES.says("of these quotes that with the best price for the order, of several that with the greatest size, of several the"
            + " lowest venue, trades with it:");
        EDGES.run("to buy, the lowest price, though its size is less",
            "on()",
            "quote(0, buy, 41, 9) = 0",
            "quote(1, buy, 40, 9) = 0",
            "quote(2, buy, 39, 1) = 0",
            "order(buy, 41, 2) = 0",
            "come(HOUSE, 1) = 1",
            "quoted(2, buy) = 0",
            "quoted(1, buy) = 8",
            "quoted(0, buy) = 9");
        EDGES.run("to sell, the highest price, though its size is less",
            "on()",
            "quote(0, sell, 39, 9) = 0",
            "quote(1, sell, 40, 9) = 0",
            "quote(2, sell, 41, 1) = 0",
            "order(sell, 39, 2) = 0",
            "come(HOUSE, 1) = 1",
            "quoted(2, sell) = 0",
            "quoted(1, sell) = 8",
            "quoted(0, sell) = 9");
        EDGES.run("the best of those with which it can trade: a better one has the size 0",
            "on()",
            "quote(0, buy, 30, 0) = 0",
            "quote(1, buy, 40, 3) = 0",
            "order(buy, 41, 2) = 0",
            "come(HOUSE, 1) = 1",
            "quoted(1, buy) = 1");
    }

    private static void greatestSize() {
        EDGES.run("of one price, the greatest size by 1, to buy and to sell",
            "on()",
            "quote(0, buy, 40, 5) = 0",
            "quote(1, buy, 40, 6) = 0",
            "quote(2, buy, 40, 5) = 0",
            "quote(0, sell, 40, 5) = 0",
            "quote(1, sell, 40, 5) = 0",
            "quote(2, sell, 40, 6) = 0",
            "order(buy, 40, 1) = 0",
            "order(sell, 40, 1) = 1",
            "come(HOUSE, 2) = 2",
            "quoted(1, buy) = 5",
            "quoted(2, sell) = 5",
            "quoted(0, buy) = 5",
            "quoted(0, sell) = 5");
        EDGES.run("what is left of them now",
            "on()",
            "quote(0, buy, 40, 6) = 0",
            "quote(1, buy, 40, 5) = 0",
            "order(buy, 40, 2) = 0",
            "come(HOUSE, 1) = 1",
            "quoted(0, buy) = 4",
            "order(buy, 40, 1) = 1",
            "come(HOUSE, 1) = 1",
            "quoted(0, buy) = 4",
            "quoted(1, buy) = 4");
    }

    private static void lowestVenue() {
        EDGES.run("of one price and size, the lowest venue, one behind the other",
            "on()",
            "quote(2, buy, 40, 3) = 0",
            "quote(1, buy, 40, 3) = 0",
            "quote(0, buy, 40, 3) = 0",
            "order(buy, 40, 3) = 0",
            "come(HOUSE, 1) = 1",
            "quoted(0, buy) = 0",
            "quoted(1, buy) = 3",
            "order(buy, 40, 3) = 1",
            "come(HOUSE, 1) = 1",
            "quoted(1, buy) = 0",
            "quoted(2, buy) = 3");
        EDGES.run("to sell",
            "on()",
            "quote(2, sell, 40, 3) = 0",
            "quote(1, sell, 40, 3) = 0",
            "order(sell, 40, 1) = 0",
            "come(HOUSE, 1) = 1",
            "quoted(1, sell) = 2",
            "quoted(2, sell) = 3");
    }

    private static void lesserOfBoth() {
        EDGES.says("an execution of the lesser one of both sizes, at the price of the quote; that is done, and the quote is less by it.");
        for (int size = 4; size <= 6; size++) {
            EDGES.run("an order of 5 and a quote of " + size,
                "on()",
                "quote(0, buy, 40, " + size + ") = 0",
                "order(buy, 50, 5) = 0",
                "come(HOUSE, 1) = 1",
                "executions() = 1",
                "done(HOUSE, 0) = " + Math.min(5, size),
                "left(HOUSE, 0) = " + Math.max(0, 5 - size),
                "quoted(0, buy) = " + Math.max(0, size - 5),
                "total(HOUSE, 0, buy, 1) = " + 40 * Math.min(5, size));
        }
        EDGES.run("sizes of 1, and the greatest ones",
            "on()",
            "quote(0, sell, 50, 1) = 0",
            "quote(1, sell, 51, 200) = 0",
            "order(sell, 50, 100) = 0",
            "come(HOUSE, 1) = 1",
            "quoted(1, sell) = 100",
            "order(sell, 50, 100) = 1",
            "come(HOUSE, 1) = 1",
            "quoted(1, sell) = 0",
            "quoted(0, sell) = 1",
            "order(sell, 50, 1) = 2",
            "come(HOUSE, 1) = 1",
            "quoted(0, sell) = 0",
            "executions() = 3");
        EDGES.says("To route an order is this, as long as something of it is left and there is a quote with which it can trade:");
        EDGES.run("until nothing is left, the last quote is whole",
            "on()",
            "quote(0, buy, 38, 2) = 0",
            "quote(1, buy, 39, 3) = 0",
            "quote(2, buy, 40, 4) = 0",
            "order(buy, 40, 5) = 0",
            "come(HOUSE, 1) = 1",
            "executions() = 2",
            "left(HOUSE, 0) = 0",
            "quoted(2, buy) = 4");
        EDGES.run("until there is no quote",
            "on()",
            "quote(0, buy, 38, 2) = 0",
            "quote(1, buy, 39, 3) = 0",
            "quote(2, buy, 41, 4) = 0",
            "order(buy, 40, 6) = 0",
            "come(HOUSE, 1) = 1",
            "executions() = 2",
            "left(HOUSE, 0) = 1",
            "quoted(2, buy) = 4");
    }

    private static void oneFilled() {
        EDGES.says("If there was any, one FILLED is reported for all of them together.");
        EDGES.run("there was none",
            "on()",
            "quote(0, buy, 51, 5) = 0",
            "order(buy, 50, 5) = 0",
            "come(HOUSE, 1) = 1",
            "sent(HOUSE) = 2");
        EDGES.run("there was one",
            "on()",
            "quote(0, buy, 50, 5) = 0",
            "order(buy, 50, 5) = 0",
            "come(HOUSE, 1) = 1",
            "sent(HOUSE) = 3",
            "message(HOUSE, 3) = 35=8 34=3 150=1 37=0 382=1 17=0 30=0 31=50 32=5 10=48");
        EDGES.run("there were three",
            "on()",
            "quote(0, buy, 50, 5) = 0",
            "quote(1, buy, 49, 5) = 0",
            "quote(2, buy, 48, 5) = 0",
            "order(buy, 50, 15) = 0",
            "come(HOUSE, 1) = 1",
            "sent(HOUSE) = 3",
            "message(HOUSE, 3) = 35=8 34=3 150=1 37=0 382=3 17=0 30=2 31=48 32=5 17=1 30=1 31=49 32=5 17=2 30=0 31=50 32=5 10=127");
        EDGES.run("one for each order, when a quote is told",
            "on()",
            "2 times order(buy, 50, 5)",
            "settle()",
            "quote(0, buy, 50, 10) = 2",
            "sent(HOUSE) = 5",
            "valueAt(HOUSE, 4, 3) = 0",
            "valueAt(HOUSE, 4, 4) = 1",
            "valueAt(HOUSE, 5, 3) = 1",
            "valueAt(HOUSE, 5, 4) = 1");
    }

    private static void ranksOfBuyers() {
        EDGES.says("When a quote is told, the orders of its direction of which something is left are routed, one after the other, by"
            + " their rank: those that buy by falling prices, those that sell by rising ones, of one price by when they came, or"
            + " were replaced last.");
        EDGES.run("there is none",
            "on()",
            "quote(0, buy, 50, 10) = 0",
            "order(sell, 50, 5) = 0",
            "settle()",
            "quote(0, buy, 50, 10) = 0",
            "quoted(0, buy) = 10");
        EDGES.run("those that buy by falling prices",
            "on()",
            "order(buy, 50, 5) = 0",
            "order(buy, 52, 5) = 1",
            "order(buy, 51, 5) = 2",
            "settle()",
            "quote(0, buy, 50, 6) = 2",
            "left(HOUSE, 1) = 0",
            "left(HOUSE, 2) = 4",
            "left(HOUSE, 0) = 5");
        EDGES.run("of one price by when they came to the house",
            "on()",
            "2 times order(buy, 50, 5)",
            "settle()",
            "quote(0, buy, 50, 6) = 2",
            "left(HOUSE, 0) = 0",
            "left(HOUSE, 1) = 4");
        EDGES.run("an order that comes with a better price is ahead of those that came before",
            "on()",
            "order(buy, 50, 5) = 0",
            "settle()",
            "order(buy, 51, 5) = 1",
            "settle()",
            "quote(0, buy, 50, 5) = 1",
            "left(HOUSE, 0) = 5",
            "left(HOUSE, 1) = 0");
        EDGES.run("by the prices in the house's book: the trader has not heard of the REPLACED yet",
            "on()",
            "order(buy, 50, 5) = 0",
            "order(sell, 50, 5) = 1",
            "replace(0, 60, 5) = 1",
            "replace(1, 40, 5) = 1",
            "order(buy, 55, 5) = 2",
            "order(sell, 45, 5) = 3",
            "come(HOUSE, 6) = 6",
            "quote(0, buy, 50, 5) = 1",
            "left(HOUSE, 0) = 0",
            "quote(0, sell, 50, 5) = 1",
            "left(HOUSE, 1) = 0");
    }

    private static void ranksOfSellers() {
        EDGES.run("those that sell by rising prices",
            "on()",
            "order(sell, 50, 5) = 0",
            "order(sell, 48, 5) = 1",
            "order(sell, 49, 5) = 2",
            "settle()",
            "quote(0, sell, 50, 6) = 2",
            "left(HOUSE, 1) = 0",
            "left(HOUSE, 2) = 4",
            "left(HOUSE, 0) = 5");
        EDGES.run("one that was replaced last is last of its price, to sell",
            "on()",
            "3 times order(sell, 50, 5)",
            "replace(1, 50, 5) = 1",
            "replace(0, 50, 5) = 1",
            "settle()",
            "quote(0, sell, 50, 12) = 3",
            "left(HOUSE, 2) = 0",
            "left(HOUSE, 1) = 0",
            "left(HOUSE, 0) = 3");
    }

    private static void ofWhichSomethingIsLeft() {
        EDGES.run("one with 1 left is routed, one with nothing left is not",
            "on()",
            "order(buy, 50, 5) = 0",
            "order(buy, 50, 5) = 1",
            "settle()",
            "quote(0, buy, 50, 4) = 1",
            "quote(0, buy, 50, 3) = 2",
            "left(HOUSE, 0) = 0",
            "left(HOUSE, 1) = 3",
            "quote(0, buy, 50, 1) = 1",
            "left(HOUSE, 1) = 2",
            "done(HOUSE, 0) = 5");
        EDGES.run("one that is out is not",
            "on()",
            "order(buy, 50, 5) = 0",
            "cancel(0) = 1",
            "settle()",
            "quote(0, buy, 50, 4) = 0",
            "quoted(0, buy) = 4");
    }

    private static void atMostHundred() {
        EDGES.says("Executions are numbered from 0, at most 100; an order is routed no further when there are 100.");
        EDGES.run("none and one",
            "on()",
            "executions() = 0",
            "bust(0) = IndexOutOfBoundsException",
            "correct(0, 1) = IndexOutOfBoundsException",
            "order(buy, 50, 5) = 0",
            "settle()",
            "quote(0, buy, 50, 1) = 1",
            "executions() = 1",
            "valueAt(HOUSE, 3, 5) = 0",
            "correct(0, 1) = 50",
            "correct(1, 1) = IndexOutOfBoundsException",
            "correct(-1, 1) = IndexOutOfBoundsException");
        EDGES.run("99, 100 and no more",
            "on()",
            "order(buy, 50, 100) = 0",
            "order(buy, 50, 100) = 1",
            "settle()",
            "99 times quote(0, buy, 50, 1) = 1",
            "executions() = 99",
            "correct(98, 50) = 50",
            "correct(99, 50) = IndexOutOfBoundsException",
            "quote(0, buy, 50, 1) = 1",
            "executions() = 100",
            "left(HOUSE, 0) = 0",
            "quote(0, buy, 50, 1) = 0",
            "executions() = 100",
            "quoted(0, buy) = 1",
            "sent(HOUSE) = 104",
            "correct(99, 50) = 50",
            "correct(100, 50) = IndexOutOfBoundsException",
            "bust(99) = 99",
            "bust(100) = IndexOutOfBoundsException",
            "quote(0, buy, 50, 1) = 0");
    }

    private static void hundredInTheMidst() {
        EDGES.run("the hundredth is the first of two for an order, whose FILLED tells one",
            "on()",
            "order(buy, 50, 100) = 0",
            "settle()",
            "99 times quote(0, buy, 50, 1) = 1",
            "quote(1, buy, 60, 3) = 0",
            "quote(2, buy, 59, 3) = 0",
            "order(buy, 60, 9) = 1",
            "come(HOUSE, 1) = 1",
            "executions() = 100",
            "left(HOUSE, 1) = 6",
            "quoted(1, buy) = 3",
            "quoted(2, buy) = 0",
            "valueAt(HOUSE, 103, 2) = FILLED",
            "valueAt(HOUSE, 103, 4) = 1",
            "fields(HOUSE, 103) = 10",
            "order(buy, 60, 2) = 2",
            "replace(1, 61, 10) = 1",
            "come(HOUSE, 2) = 2",
            "left(HOUSE, 2) = 2",
            "left(HOUSE, 1) = 7",
            "sent(HOUSE) = 105");
        EDGES.run("the hundredth is of the first of two orders, when a quote is told",
            "on()",
            "order(buy, 51, 100) = 0",
            "order(buy, 50, 5) = 1",
            "settle()",
            "99 times quote(0, buy, 51, 1) = 1",
            "quote(0, buy, 50, 5) = 1",
            "left(HOUSE, 0) = 0",
            "left(HOUSE, 1) = 5",
            "quoted(0, buy) = 4");
    }

    private static void bustedOrCorrected() {
        EDGES.says("It can be busted: what was done by it is out; or get another price; either is reported.");
        EDGES.run("busted once, not twice; not corrected then",
            "on()",
            "quote(0, buy, 50, 5) = 0",
            "order(buy, 50, 9) = 0",
            "come(HOUSE, 1) = 1",
            "bust(0) = 0",
            "book(HOUSE, 0) = 4 0 0 5",
            "last(HOUSE) = 35=8 34=4 150=5 37=0 17=0 10=34",
            "bust(0) = IllegalStateException",
            "correct(0, 50) = IllegalStateException",
            "sent(HOUSE) = 4");
        EDGES.run("one of two: the rest stays done",
            "on()",
            "quote(0, buy, 50, 5) = 0",
            "quote(1, buy, 50, 3) = 0",
            "order(buy, 50, 9) = 0",
            "come(HOUSE, 1) = 1",
            "bust(1) = 5",
            "bust(0) = 0",
            "book(HOUSE, 0) = 1 0 0 8",
            "quoted(0, buy) = 0");
        EDGES.run("corrected as often as one likes, by the same price too, and busted then",
            "on()",
            "quote(0, buy, 50, 5) = 0",
            "order(buy, 50, 9) = 0",
            "come(HOUSE, 1) = 1",
            "correct(0, 1) = 50",
            "correct(0, 100) = 1",
            "correct(0, 100) = 100",
            "sent(HOUSE) = 6",
            "last(HOUSE) = 35=8 34=6 150=6 37=0 17=0 31=100 10=168",
            "book(HOUSE, 0) = 4 5 5 0",
            "bust(0) = 0");
        EDGES.run("while the line is down",
            "on()",
            "quote(0, buy, 50, 5) = 0",
            "order(buy, 50, 9) = 0",
            "settle()",
            "cut() = 0",
            "correct(0, 7) = 50",
            "bust(0) = 0",
            "sent(HOUSE) = 5",
            "onWay(TRADER) = 0",
            "connect(false)",
            "settle()",
            "book(TRADER, 0) = 4 0 0 5");
    }

    private static void days() {
        EDGES.says("Days are counted from 0; a day is ended by a call.");
        EDGES.run("the first day is 0",
            "total(HOUSE, 0, buy, 0) = 0",
            "total(HOUSE, 1, buy, 0) = IndexOutOfBoundsException",
            "endDay() = 1",
            "total(HOUSE, 1, buy, 0) = 0",
            "total(HOUSE, 2, buy, 0) = IndexOutOfBoundsException",
            "endDay() = 2");
        EDGES.run("no tick ends one",
            "on()",
            "pass(50)",
            "endDay() = 1");
        EDGES.says("An execution has an order, a venue, a price, a size and the day on which it was made.");
        EDGES.run("the last of one day, the first of the next; known, busted or corrected later",
            "on()",
            "order(buy, 50, 20) = 0",
            "settle()",
            "quote(0, buy, 40, 2) = 1",
            "endDay() = 1",
            "quote(0, buy, 41, 3) = 1",
            "total(TRADER, 0, buy, 1) = 0",
            "settle()",
            "total(TRADER, 0, buy, 1) = 80",
            "total(TRADER, 1, buy, 1) = 123",
            "total(HOUSE, 0, buy, 0) = 2",
            "total(HOUSE, 1, buy, 0) = 3",
            "endDay() = 2",
            "correct(0, 50) = 40",
            "bust(1) = 2",
            "settle()",
            "total(TRADER, 0, buy, 1) = 100",
            "total(HOUSE, 1, buy, 0) = 0",
            "total(HOUSE, 2, buy, 0) = 0");
    }
}
