/** The edges that the document names under "Reports". */
public final class ReportEdgesTest {
    private static final Edges EDGES = new Edges("ReportEdgesTest");

    public static void main(String[] args) {
        sorts();
        filledOfOneAndMany();
        acknowledged();
        filled();
        out();
        replaced();
        busted();
        corrected();
        refused();
        unknown();
        EDGES.end();
    }

    private static void sorts() {
        EDGES.says("The sorts, and their fields behind the order: ACK 0; FILLED 1, with 382 and how many executions, then for each"
            + " of these 17 and the execution, 30 and the venue, 31 and the price, 32 and the size; OUT 2, with 32 and how much;"
            + " REPLACED 3, with 44 and the price, 38 and the size; REFUSED 4; BUSTED 5, with 17 and the execution; CORRECTED 6,"
            + " with 17 and the execution, 31 and the price.");
        EDGES.run("one of each sort",
            "on()",
            "order(buy, 50, 20) = 0",
            "settle()",
            "message(HOUSE, 2) = 35=8 34=2 150=0 37=0 10=10",
            "quote(2, buy, 49, 7) = 1",
            "message(HOUSE, 3) = 35=8 34=3 150=1 37=0 382=1 17=0 30=2 31=49 32=7 10=51",
            "replace(0, 48, 30) = 1",
            "settle()",
            "message(HOUSE, 4) = 35=8 34=4 150=3 37=0 44=48 38=30 10=175",
            "cancel(0) = 1",
            "cancel(0) = 2",
            "settle()",
            "message(HOUSE, 5) = 35=8 34=5 150=2 37=0 32=23 10=70",
            "message(HOUSE, 6) = 35=8 34=6 150=4 37=0 10=18",
            "correct(0, 100) = 49",
            "message(HOUSE, 7) = 35=8 34=7 150=6 37=0 17=0 31=100 10=169",
            "bust(0) = 0",
            "message(HOUSE, 8) = 35=8 34=8 150=5 37=0 17=0 10=38");
    }

    private static void filledOfOneAndMany() {
        EDGES.run("a FILLED of three, then one of one",
            "on()",
            "quote(0, sell, 60, 1) = 0",
            "quote(1, sell, 58, 1) = 0",
            "quote(2, sell, 59, 1) = 0",
            "order(sell, 58, 4) = 0",
            "come(HOUSE, 1) = 1",
            "fields(HOUSE, 3) = 18",
            "message(HOUSE, 3) = 35=8 34=3 150=1 37=0 382=3 17=0 30=0 31=60 32=1 17=1 30=2 31=59 32=1 17=2 30=1 31=58 32=1 10=145",
            "quote(0, sell, 60, 1) = 1",
            "fields(HOUSE, 4) = 10",
            "message(HOUSE, 4) = 35=8 34=4 150=1 37=0 382=1 17=3 30=0 31=60 32=1 10=58");
        EDGES.run("the 100th execution",
            "on()",
            "order(buy, 50, 100) = 0",
            "settle()",
            "100 times quote(1, buy, 50, 1) = 1",
            "message(HOUSE, 102) = 35=8 34=102 150=1 37=0 382=1 17=99 30=1 31=50 32=1 10=243");
    }

    private static void acknowledged() {
        EDGES.says("The TRADER works them off in its book: ACK: it is acknowledged;");
        EDGES.run("that order and no other",
            "on()",
            "2 times order(buy, 50, 20)",
            "come(HOUSE, 2) = 2",
            "come(TRADER, 1) = 1",
            "stateOf(0) = LIVE",
            "stateOf(1) = PENDING",
            "come(TRADER, 1) = 1",
            "stateOf(1) = LIVE");
    }

    private static void filled() {
        EDGES.says("FILLED: the sizes of the executions are done, and it knows these, with their prices;");
        EDGES.run("one and three of them, at the prices of then",
            "on()",
            "quote(0, buy, 50, 1) = 0",
            "quote(1, buy, 49, 2) = 0",
            "quote(2, buy, 48, 3) = 0",
            "order(buy, 50, 20) = 0",
            "come(HOUSE, 1) = 1",
            "correct(0, 10) = 48",
            "come(TRADER, 1) = 1",
            "book(TRADER, 0) = 20 0 0 0",
            "total(TRADER, 0, buy, 1) = 0",
            "come(TRADER, 1) = 1",
            "book(TRADER, 0) = 14 6 6 0",
            "total(TRADER, 0, buy, 0) = 6",
            "total(TRADER, 0, buy, 1) = 292",
            "total(HOUSE, 0, buy, 1) = 178",
            "come(TRADER, 1) = 1",
            "total(TRADER, 0, buy, 1) = 178",
            "quote(0, buy, 50, 4) = 1",
            "come(TRADER, 1) = 1",
            "book(TRADER, 0) = 10 10 10 0");
        EDGES.run("of that order and no other",
            "on()",
            "2 times order(sell, 50, 20)",
            "settle()",
            "quote(0, sell, 50, 21) = 2",
            "come(TRADER, 1) = 1",
            "book(TRADER, 0) = 0 20 20 0",
            "book(TRADER, 1) = 20 0 0 0",
            "come(TRADER, 1) = 1",
            "book(TRADER, 1) = 19 1 1 0");
    }

    private static void out() {
        EDGES.says("OUT: as much is out;");
        EDGES.run("as the OUT tells, not all that is left for the trader",
            "on()",
            "order(buy, 50, 20) = 0",
            "settle()",
            "quote(0, buy, 50, 4) = 1",
            "garble(TRADER, 0) = 3",
            "come(TRADER, 1) = 1",
            "cut() = 0",
            "connect(reset)",
            "settle()",
            "cancel(0) = 1",
            "settle()",
            "book(TRADER, 0) = 4 0 0 16",
            "stateOf(0) = LIVE",
            "book(HOUSE, 0) = 0 4 4 16");
        EDGES.run("beside what was out before",
            "on()",
            "order(buy, 50, 20) = 0",
            "settle()",
            "quote(0, buy, 50, 4) = 1",
            "bust(0) = 0",
            "cancel(0) = 1",
            "settle()",
            "book(TRADER, 0) = 0 0 0 20");
    }

    private static void replaced() {
        EDGES.says("REPLACED: it has the new price and size;");
        EDGES.run("greater, then less",
            "on()",
            "order(buy, 50, 20) = 0",
            "settle()",
            "quote(0, buy, 50, 4) = 1",
            "settle()",
            "replace(0, 51, 100) = 1",
            "settle()",
            "book(TRADER, 0) = 96 4 4 0",
            "replace(0, 49, 5) = 1",
            "come(HOUSE, 1) = 1",
            "book(TRADER, 0) = 96 4 4 0",
            "come(TRADER, 1) = 1",
            "book(TRADER, 0) = 1 4 4 0");
    }

    private static void busted() {
        EDGES.says("BUSTED, of an execution that it knows: its size is out, and no more done, and it knows that it is busted;");
        EDGES.run("one of two, then the other",
            "on()",
            "quote(0, buy, 50, 3) = 0",
            "quote(1, buy, 49, 5) = 0",
            "order(buy, 50, 20) = 0",
            "settle()",
            "bust(0) = 3",
            "book(TRADER, 0) = 12 8 8 0",
            "total(TRADER, 0, buy, 0) = 8",
            "come(TRADER, 1) = 1",
            "book(TRADER, 0) = 12 3 3 5",
            "total(TRADER, 0, buy, 0) = 3",
            "total(TRADER, 0, buy, 1) = 150",
            "bust(1) = 0",
            "come(TRADER, 1) = 1",
            "book(TRADER, 0) = 12 0 0 8");
    }

    private static void corrected() {
        EDGES.says("CORRECTED, of one that it knows: it knows the new price;");
        EDGES.run("the new price, the last one, and no other execution's",
            "on()",
            "quote(0, buy, 50, 3) = 0",
            "quote(1, buy, 49, 5) = 0",
            "order(buy, 50, 20) = 0",
            "settle()",
            "correct(0, 1) = 49",
            "correct(0, 100) = 1",
            "total(TRADER, 0, buy, 1) = 395",
            "come(TRADER, 1) = 1",
            "total(TRADER, 0, buy, 1) = 155",
            "come(TRADER, 1) = 1",
            "total(TRADER, 0, buy, 1) = 650",
            "book(TRADER, 0) = 12 8 8 0");
    }

    private static void refused() {
        EDGES.says("REFUSED nothing.");
        EDGES.run("the book is what it was",
            "on()",
            "order(buy, 50, 20) = 0",
            "settle()",
            "quote(0, buy, 50, 4) = 1",
            "settle()",
            "replace(0, 60, 4) = 1",
            "settle()",
            "last(HOUSE) = 35=8 34=4 150=4 37=0 10=16",
            "book(TRADER, 0) = 16 4 4 0",
            "stateOf(0) = LIVE");
    }

    private static void unknown() {
        EDGES.says("BUSTED, of an execution that it knows:");
        EDGES.run("of one that it does not know nothing happens, by a CORRECTED neither",
            "on()",
            "order(buy, 50, 20) = 0",
            "settle()",
            "quote(0, buy, 50, 4) = 1",
            "quote(0, buy, 49, 5) = 1",
            "cut() = 2",
            "connect(reset)",
            "settle()",
            "correct(0, 10) = 50",
            "bust(1) = 4",
            "settle()",
            "book(TRADER, 0) = 20 0 0 0",
            "total(TRADER, 0, buy, 0) = 0",
            "bust(0) = 0",
            "settle()",
            "book(TRADER, 0) = 20 0 0 0",
            "book(HOUSE, 0) = 11 0 0 9",
            "agree() = false");
    }
}
