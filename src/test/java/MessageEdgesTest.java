/** The edges that the document names under "Messages": numbers, the line, fields, the sum. */
public final class MessageEdgesTest {
    private static final Edges EDGES = new Edges("MessageEdgesTest");

    public static void main(String[] args) {
        sidesAndKinds();
        numbers();
        ontoTheLine();
        onceMore();
        garbled();
        fieldsOfTheSession();
        fieldsOfTheTrader();
        fieldsOfTheHouse();
        sum();
        EDGES.end();
    }

    private static void sidesAndKinds() {
        EDGES.says("There are two sides, the TRADER and the HOUSE.");
        EDGES.run("and none ahead of them or behind",
            "sent(-1) = IndexOutOfBoundsException",
            "sent(TRADER) = 0",
            "sent(HOUSE) = 0",
            "sent(2) = IndexOutOfBoundsException");
        EDGES.says("A message has a kind: LOGON, BEAT, TEST, RESEND with a first number, FILL with a next number, ORDER, CANCEL,"
            + " REPLACE or REPORT. The first five are of the session.");
        EDGES.run("one of each; those of the session, a FILL in place of each row of them, do not go again",
            "on()",
            "pass(15) = 4",
            "order(buy, 9, 9) = 0",
            "cancel(0) = 1",
            "replace(0, 9, 9) = 2",
            "valueAt(TRADER, 1, 0) = LOGON",
            "valueAt(TRADER, 2, 0) = BEAT",
            "valueAt(TRADER, 3, 0) = TEST",
            "valueAt(TRADER, 4, 0) = ORDER",
            "valueAt(TRADER, 5, 0) = CANCEL",
            "valueAt(TRADER, 6, 0) = REPLACE",
            "garble(HOUSE, 0) = 2",
            "come(HOUSE, 5) = 5",
            "valueAt(HOUSE, 4, 0) = RESEND",
            "come(TRADER, 3) = 3",
            "onWay(HOUSE) = 6",
            "garble(HOUSE, 0) = 7",
            "garble(HOUSE, 2) = 4",
            "garble(HOUSE, 3) = 5",
            "garble(HOUSE, 4) = 6",
            "garble(HOUSE, 5) = 7",
            "come(HOUSE, 2) = 2",
            "expected(HOUSE) = 7",
            "valueAt(HOUSE, 5, 0) = REPORT",
            "come(HOUSE, 4) = 4",
            "expected(HOUSE) = 7");
    }

    private static void numbers() {
        EDGES.says("A side numbers its messages from 1 on, and keeps each that it sends.");
        EDGES.run("none is sent",
            "sent(TRADER) = 0",
            "sent(HOUSE) = 0",
            "fields(TRADER, 1) = IndexOutOfBoundsException",
            "fields(HOUSE, 1) = IndexOutOfBoundsException");
        EDGES.run("one is sent",
            "connect(false)",
            "sent(TRADER) = 1",
            "valueAt(TRADER, 1, 1) = 1",
            "valueAt(HOUSE, 1, 1) = 1",
            "fields(TRADER, 0) = IndexOutOfBoundsException",
            "fields(TRADER, 1) = 3",
            "fields(TRADER, 2) = IndexOutOfBoundsException");
        EDGES.run("each side counts for itself",
            "on()",
            "3 times order(buy, 9, 9)",
            "sent(TRADER) = 4",
            "sent(HOUSE) = 1",
            "valueAt(TRADER, 4, 1) = 4",
            "fields(HOUSE, 2) = IndexOutOfBoundsException",
            "come(HOUSE, 2) = 2",
            "sent(HOUSE) = 3",
            "valueAt(HOUSE, 3, 1) = 3");
        EDGES.run("what is lost is kept, the line down or up",
            "on()",
            "order(buy, 9, 9) = 0",
            "garble(HOUSE, 0) = 2",
            "come(HOUSE, 1) = 1",
            "fields(TRADER, 2) = 7",
            "cut() = 0",
            "fields(TRADER, 2) = 7",
            "fields(TRADER, 3) = IndexOutOfBoundsException");
    }

    private static void ontoTheLine() {
        EDGES.says("If the line is up, a message goes onto it behind those that are on their way to the other side,"
            + " whether or not the side is on; otherwise it is only kept.");
        EDGES.run("behind none",
            "on()",
            "onWay(HOUSE) = 0",
            "order(buy, 9, 9) = 0",
            "onWay(HOUSE) = 1",
            "onWay(TRADER) = 0",
            "garble(HOUSE, 0) = 2");
        EDGES.run("behind one",
            "on()",
            "2 times order(buy, 9, 9)",
            "garble(HOUSE, 0) = 2",
            "garble(HOUSE, 1) = 3",
            "garble(HOUSE, 2) = IndexOutOfBoundsException");
        EDGES.run("those that go again stand behind too",
            "on()",
            "2 times order(buy, 9, 9)",
            "garble(HOUSE, 0) = 2",
            "come(HOUSE, 2) = 2",
            "order(buy, 9, 9) = 2",
            "come(TRADER, 1) = 1",
            "onWay(HOUSE) = 4",
            "garble(HOUSE, 0) = 4",
            "garble(HOUSE, 1) = 2",
            "garble(HOUSE, 2) = 3",
            "garble(HOUSE, 3) = 4");
        EDGES.run("behind many, of which some have come, and one is garbled",
            "on()",
            "30 times order(buy, 9, 9)",
            "come(HOUSE, 20) = 20",
            "garble(HOUSE, 5) = 27",
            "10 times order(buy, 9, 9)",
            "5 times replace(0, 9, 9)",
            "5 times replace(1, 9, 9)",
            "5 times replace(2, 9, 9)",
            "5 times replace(3, 9, 9)",
            "onWay(HOUSE) = 40",
            "garble(HOUSE, 39) = 61",
            "garble(HOUSE, 38) = 60",
            "come(HOUSE, 5) = 5",
            "expected(HOUSE) = 27",
            "come(HOUSE, 35) = 35",
            "expected(HOUSE) = 27",
            "held(HOUSE) = 32");
        EDGES.run("the house is not on",
            "on()",
            "order(buy, 9, 9) = 0",
            "settle()",
            "cut() = 0",
            "connect(false)",
            "isOn(HOUSE) = false",
            "onWay(TRADER) = 1",
            "quote(0, buy, 9, 1) = 1",
            "onWay(TRADER) = 2",
            "garble(TRADER, 1) = 4");
        EDGES.run("the line is down",
            "on()",
            "order(buy, 9, 9) = 0",
            "settle()",
            "cut() = 0",
            "quote(0, buy, 9, 1) = 1",
            "sent(HOUSE) = 3",
            "fields(HOUSE, 3) = 10",
            "onWay(TRADER) = 0",
            "connect(false)",
            "onWay(TRADER) = 1",
            "garble(TRADER, 0) = 4");
    }

    private static void onceMore() {
        EDGES.says("A message that goes once more has its number, and is told to go again; it is not kept anew.");
        EDGES.run("two go again",
            "on()",
            "2 times order(buy, 9, 9)",
            "garble(HOUSE, 0) = 2",
            "come(HOUSE, 2) = 2",
            "come(TRADER, 1) = 1",
            "sent(TRADER) = 3",
            "onWay(HOUSE) = 2",
            "garble(HOUSE, 0) = 2",
            "garble(HOUSE, 1) = 3",
            "message(TRADER, 2) = 35=5 34=2 11=0 54=0 44=9 38=9 10=241");
    }

    private static void garbled() {
        EDGES.says("A message on the line can be garbled.");
        EDGES.run("one of none",
            "garble(HOUSE, 0) = IndexOutOfBoundsException",
            "on()",
            "garble(HOUSE, 0) = IndexOutOfBoundsException",
            "garble(TRADER, 0) = IndexOutOfBoundsException");
        EDGES.run("what is kept is whole, and goes again whole",
            "on()",
            "2 times order(buy, 9, 9)",
            "garble(HOUSE, 0) = 2",
            "message(TRADER, 2) = 35=5 34=2 11=0 54=0 44=9 38=9 10=241",
            "come(HOUSE, 2) = 2",
            "left(HOUSE, 0) = NONE",
            "come(TRADER, 1) = 1",
            "come(HOUSE, 1) = 1",
            "left(HOUSE, 0) = 9",
            "left(HOUSE, 1) = 9");
        EDGES.run("one that goes again, and the FILL ahead of it",
            "on()",
            "pass(9) = 0",
            "come(HOUSE, 1) = 0",
            "pass(1) = 2",
            "garble(HOUSE, 0) = 2",
            "order(buy, 9, 9) = 0",
            "come(HOUSE, 2) = 2",
            "come(TRADER, 2) = 2",
            "onWay(HOUSE) = 2",
            "garble(HOUSE, 0) = 2",
            "garble(HOUSE, 1) = 3",
            "come(HOUSE, 2) = 2",
            "expected(HOUSE) = 2",
            "held(HOUSE) = 1");
    }

    private static void fieldsOfTheSession() {
        EDGES.says("The fields of a message that is kept are pairs of a tag and a value, in this order: 35 the kind; 34 the number;"
            + " then, of a RESEND 7 and its first number;");
        EDGES.run("LOGON, BEAT and TEST have no fields between",
            "on()",
            "pass(15) = 4",
            "message(TRADER, 1) = 35=0 34=1 10=70",
            "message(TRADER, 2) = 35=1 34=2 10=72",
            "message(TRADER, 3) = 35=2 34=3 10=74");
        EDGES.run("RESEND of the house",
            "on()",
            "2 times order(buy, 9, 9)",
            "garble(HOUSE, 0) = 2",
            "come(HOUSE, 2) = 2",
            "message(HOUSE, 2) = 35=3 34=2 7=2 10=83");
        EDGES.run("RESEND of the trader",
            "on()",
            "2 times order(buy, 9, 9)",
            "come(HOUSE, 2) = 2",
            "garble(TRADER, 0) = 2",
            "come(TRADER, 2) = 2",
            "message(TRADER, 4) = 35=3 34=4 7=2 10=85");
    }

    private static void fieldsOfTheTrader() {
        EDGES.says("of an ORDER 11 and the order, 54 and 0 to buy or 1 to sell, 44 and the price, 38 and the size;");
        EDGES.run("to buy and to sell",
            "on()",
            "order(buy, 10, 20) = 0",
            "order(sell, 30, 40) = 1",
            "message(TRADER, 2) = 35=5 34=2 11=0 54=0 44=10 38=20 10=253",
            "message(TRADER, 3) = 35=5 34=3 11=1 54=1 44=30 38=40 10=40");
        EDGES.says("of a CANCEL 41 and the order; of a REPLACE 41 and the order, 44 and the price, 38 and the size;");
        EDGES.run("CANCEL and REPLACE",
            "on()",
            "2 times order(buy, 10, 20)",
            "cancel(0) = 1",
            "replace(1, 50, 60) = 1",
            "message(TRADER, 4) = 35=6 34=4 41=0 10=120",
            "message(TRADER, 5) = 35=7 34=5 41=1 44=50 38=60 10=59");
    }

    private static void fieldsOfTheHouse() {
        EDGES.says("of a REPORT 150 and its sort, 37 and the order, and what the sort tells below;");
        EDGES.run("of the second order",
            "on()",
            "2 times order(buy, 10, 20)",
            "come(HOUSE, 2) = 2",
            "message(HOUSE, 2) = 35=8 34=2 150=0 37=0 10=10",
            "message(HOUSE, 3) = 35=8 34=3 150=0 37=1 10=12");
    }

    private static void sum() {
        EDGES.says("at the end 10 and the sum, which is that of all tags and values ahead of it, modulo 256.");
        EDGES.run("ORDERs of the sums 255, 256 and 257",
            "on()",
            "order(buy, 16, 16) = 0",
            "order(buy, 16, 15) = 1",
            "order(buy, 15, 15) = 2",
            "valueAt(TRADER, 2, 6) = 255",
            "valueAt(TRADER, 3, 6) = 0",
            "valueAt(TRADER, 4, 6) = 1");
        for (int size = 3; size <= 5; size++) {
            int sum = 764 + size;
            EDGES.run("a FILLED of the sum " + sum + ", three times round",
                "on()",
                "order(buy, 3, 5) = 0",
                "quote(0, buy, 3, " + size + ") = 0",
                "come(HOUSE, 1) = 1",
                "tagAt(HOUSE, 3, 9) = 10",
                "valueAt(HOUSE, 3, 9) = " + sum % 256);
        }
    }
}
