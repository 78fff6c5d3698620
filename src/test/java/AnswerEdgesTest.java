/** The edges that the document names where a RESEND is answered. */
public final class AnswerEdgesTest {
    private static final Edges EDGES = new Edges("AnswerEdgesTest");

    public static void main(String[] args) {
        fromTheFirst();
        toTheLast();
        noFill();
        oneFill();
        fillsApart();
        nextNumber();
        session();
        stale();
        staleAndNot();
        goneAgain();
        othersAreNeverStale();
        leftOutThen();
        EDGES.end();
    }

    private static void fromTheFirst() {
        EDGES.says("A RESEND is answered like this, from its first number, 1 at least, to the last one that was sent by then:");
        EDGES.run("the first number is 1",
            "connect(false)",
            "garble(HOUSE, 0) = 1",
            "come(HOUSE, 1) = 1",
            "come(TRADER, 1) = 1",
            "order(buy, 9, 9) = 0",
            "cut() = 1",
            "connect(false)",
            "come(HOUSE, 1) = 1",
            "last(HOUSE) = 35=3 34=3 7=1 10=83",
            "come(TRADER, 2) = 2",
            "onWay(HOUSE) = 3",
            "come(HOUSE, 1) = 1",
            "expected(HOUSE) = 2",
            "come(HOUSE, 1) = 1",
            "expected(HOUSE) = 4",
            "left(HOUSE, 0) = 9");
        EDGES.run("the first number is not that of the first message",
            "on()",
            "4 times order(buy, 9, 9)",
            "come(HOUSE, 2) = 2",
            "garble(HOUSE, 0) = 4",
            "come(HOUSE, 2) = 2",
            "come(TRADER, 3) = 3",
            "onWay(HOUSE) = 2",
            "garble(HOUSE, 0) = 4",
            "garble(HOUSE, 1) = 5");
    }

    private static void toTheLast() {
        EDGES.run("one that was sent behind the asking goes again, one behind the answer does not",
            "on()",
            "2 times order(buy, 9, 9)",
            "garble(HOUSE, 0) = 2",
            "come(HOUSE, 2) = 2",
            "order(buy, 9, 9) = 2",
            "come(HOUSE, 1) = 1",
            "come(TRADER, 1) = 1",
            "order(buy, 9, 9) = 3",
            "onWay(HOUSE) = 4",
            "garble(HOUSE, 0) = 2",
            "garble(HOUSE, 1) = 3",
            "garble(HOUSE, 2) = 4",
            "garble(HOUSE, 3) = 5");
    }

    private static void noFill() {
        EDGES.says("messages that must not go again, one behind the other, are told together by one FILL, told to go again,"
            + " with the number of the first one, and as its next number that behind the last one; each other one goes again.");
        EDGES.run("none: no FILL",
            "on()",
            "2 times order(buy, 9, 9)",
            "garble(HOUSE, 0) = 2",
            "come(HOUSE, 2) = 2",
            "come(TRADER, 1) = 1",
            "onWay(HOUSE) = 2");
    }

    private static void oneFill() {
        EDGES.run("all: a FILL alone",
            "on()",
            "pass(15) = 4",
            "garble(HOUSE, 0) = 2",
            "come(HOUSE, 2) = 2",
            "garble(TRADER, 1) = 3",
            "come(TRADER, 3) = 3",
            "onWay(HOUSE) = 2",
            "garble(HOUSE, 1) = 4",
            "come(HOUSE, 1) = 1",
            "expected(HOUSE) = 4",
            "held(HOUSE) = 0");
        EDGES.run("one ahead",
            "on()",
            "pass(10) = 2",
            "come(TRADER, 1) = 1",
            "order(buy, 9, 9) = 0",
            "garble(HOUSE, 0) = 2",
            "come(HOUSE, 2) = 2",
            "come(TRADER, 1) = 1",
            "onWay(HOUSE) = 2",
            "garble(HOUSE, 0) = 2",
            "garble(HOUSE, 1) = 3");
        EDGES.run("one at the end",
            "on()",
            "2 times order(buy, 9, 9)",
            "pass(10) = 2",
            "garble(HOUSE, 0) = 2",
            "come(HOUSE, 3) = 3",
            "come(TRADER, 2) = 2",
            "onWay(HOUSE) = 3",
            "garble(HOUSE, 0) = 2",
            "garble(HOUSE, 1) = 3",
            "garble(HOUSE, 2) = 4");
    }

    private static void fillsApart() {
        EDGES.run("ORDERs between: a FILL each",
            "on()",
            "order(buy, 9, 9) = 0",
            "pass(10) = 2",
            "come(TRADER, 1) = 1",
            "order(buy, 9, 9) = 1",
            "pass(10)",
            "garble(HOUSE, 0) = 2",
            "come(HOUSE, 4) = 4",
            "garble(TRADER, 0) = 3",
            "come(TRADER, 2) = 2",
            "onWay(HOUSE) = 5",
            "garble(HOUSE, 0) = 2",
            "garble(HOUSE, 1) = 3",
            "garble(HOUSE, 2) = 4",
            "garble(HOUSE, 3) = 5",
            "garble(HOUSE, 4) = 6",
            "last(TRADER) = 35=3 34=6 7=3 10=88");
    }

    /** Each time one more of what follows the FILL is garbled, so that its next number is what is expected. */
    private static void nextNumber() {
        EDGES.run("the next number of a FILL between ORDERs",
            "on()",
            "order(buy, 9, 9) = 0",
            "pass(10) = 2",
            "2 times order(buy, 9, 9)",
            "garble(HOUSE, 0) = 2",
            "garble(HOUSE, 1) = 3",
            "garble(HOUSE, 2) = 4",
            "come(HOUSE, 4) = 4",
            "come(TRADER, 2) = 2",
            "onWay(HOUSE) = 4",
            "garble(HOUSE, 2) = 4",
            "come(HOUSE, 1) = 1",
            "expected(HOUSE) = 3",
            "come(HOUSE, 1) = 1",
            "expected(HOUSE) = 4",
            "come(HOUSE, 1) = 1",
            "expected(HOUSE) = 4",
            "held(HOUSE) = 1");
        EDGES.run("the next number of a FILL at the end is that of the next message",
            "on()",
            "2 times order(buy, 9, 9)",
            "garble(HOUSE, 0) = 2",
            "come(HOUSE, 2) = 2",
            "pass(10) = 2",
            "garble(HOUSE, 0) = 4",
            "come(HOUSE, 1) = 1",
            "come(TRADER, 1) = 1",
            "order(buy, 9, 9) = 2",
            "onWay(HOUSE) = 4",
            "come(HOUSE, 2) = 2",
            "expected(HOUSE) = 4",
            "come(HOUSE, 1) = 1",
            "expected(HOUSE) = 5",
            "come(HOUSE, 1) = 1",
            "left(HOUSE, 2) = 9");
    }

    private static void session() {
        EDGES.says("Messages of the session must not go again;");
        EDGES.run("a LOGON",
            "connect(false)",
            "garble(HOUSE, 0) = 1",
            "cut() = 2",
            "connect(false)",
            "come(HOUSE, 1) = 1",
            "come(TRADER, 1) = 1",
            "come(TRADER, 1) = 1",
            "onWay(HOUSE) = 2",
            "garble(HOUSE, 0) = 3",
            "garble(HOUSE, 1) = 1",
            "cut()");
        EDGES.run("a RESEND, a BEAT and a TEST are told together",
            "on()",
            "2 times order(buy, 9, 9)",
            "come(HOUSE, 2) = 2",
            "garble(TRADER, 0) = 2",
            "come(TRADER, 2) = 2",
            "pass(15) = 4",
            "valueAt(TRADER, 4, 0) = RESEND",
            "valueAt(TRADER, 5, 0) = BEAT",
            "valueAt(TRADER, 6, 0) = TEST",
            "garble(HOUSE, 0) = 4",
            "garble(HOUSE, 1) = 5",
            "garble(HOUSE, 2) = 6",
            "order(buy, 9, 9) = 2",
            "come(HOUSE, 4) = 4",
            "last(HOUSE) = 35=3 34=6 7=4 10=89",
            "come(TRADER, 3) = 3",
            "onWay(HOUSE) = 4",
            "garble(HOUSE, 0) = 8",
            "garble(HOUSE, 2) = 7",
            "garble(HOUSE, 3) = 8",
            "come(HOUSE, 2) = 2",
            "expected(HOUSE) = 8",
            "left(HOUSE, 2) = 9");
        EDGES.run("a TEST that is lost is never answered",
            "on()",
            "pass(15) = 4",
            "garble(HOUSE, 1) = 3",
            "come(HOUSE, 2) = 2",
            "order(buy, 9, 9) = 0",
            "come(HOUSE, 1) = 1",
            "last(HOUSE) = 35=3 34=4 7=3 10=86",
            "garble(TRADER, 1) = 3",
            "come(TRADER, 3) = 3",
            "onWay(HOUSE) = 3",
            "come(HOUSE, 2) = 2",
            "expected(HOUSE) = 5",
            "sent(HOUSE) = 5",
            "last(HOUSE) = 35=8 34=5 150=0 37=0 10=13");
    }

    private static void stale() {
        EDGES.says("nor must an ORDER that was sent more than 20 ticks ago and has never gone again (one that has may go again"
            + " at any time); that order is left out then.");
        EDGES.run("20 ticks ago",
            "on()",
            "2 times order(buy, 9, 9)",
            "garble(HOUSE, 0) = 2",
            "come(HOUSE, 2) = 2",
            "pass(20) = 4",
            "onWay(HOUSE) = 2",
            "come(TRADER, 1) = 1",
            "onWay(HOUSE) = 5",
            "isLeftOut(0) = false",
            "isLeftOut(1) = false",
            "garble(HOUSE, 2) = 2",
            "garble(HOUSE, 3) = 3",
            "garble(HOUSE, 4) = 4");
        EDGES.run("21 ticks ago",
            "on()",
            "2 times order(buy, 9, 9)",
            "garble(HOUSE, 0) = 2",
            "come(HOUSE, 2) = 2",
            "pass(21) = 4",
            "isLeftOut(0) = false",
            "come(TRADER, 1) = 1",
            "onWay(HOUSE) = 3",
            "isLeftOut(0) = true",
            "isLeftOut(1) = true",
            "come(HOUSE, 3) = 3",
            "expected(HOUSE) = 6",
            "held(HOUSE) = 0",
            "left(HOUSE, 0) = NONE",
            "left(HOUSE, 1) = NONE",
            "stateOf(0) = PENDING");
        for (int ticks = 20; ticks <= 21; ticks++) {
            EDGES.run(ticks + " ticks ago, the line down meanwhile",
                "on()",
                "order(buy, 9, 9) = 0",
                "garble(HOUSE, 0) = 2",
                "come(HOUSE, 1) = 1",
                "cut() = 0",
                "pass(" + ticks + ") = 0",
                "connect(false)",
                "come(HOUSE, 1) = 1",
                "come(TRADER, 2) = 2",
                "onWay(HOUSE) = " + (ticks == 20 ? 2 : 1),
                "isLeftOut(0) = " + (ticks > 20));
        }
    }

    private static void staleAndNot() {
        EDGES.run("one of 21 ticks ahead of one of 20",
            "on()",
            "order(buy, 9, 9) = 0",
            "pass(1) = 0",
            "order(buy, 9, 9) = 1",
            "garble(HOUSE, 0) = 2",
            "come(HOUSE, 2) = 2",
            "pass(20) = 4",
            "come(TRADER, 1) = 1",
            "isLeftOut(0) = true",
            "isLeftOut(1) = false",
            "onWay(HOUSE) = 5",
            "garble(HOUSE, 2) = 2",
            "garble(HOUSE, 3) = 3",
            "garble(HOUSE, 4) = 4");
    }

    /** The ORDERs go again when 20 ticks old and are lost again; then they are 30 ticks old. */
    private static void goneAgain() {
        EDGES.run("one that has gone again, 30 ticks ago",
            "on()",
            "2 times order(buy, 9, 9)",
            "garble(HOUSE, 0) = 2",
            "come(HOUSE, 2) = 2",
            "pass(20) = 4",
            "come(TRADER, 1) = 1",
            "garble(HOUSE, 2) = 2",
            "garble(HOUSE, 3) = 3",
            "come(HOUSE, 5) = 5",
            "pass(10) = 2",
            "come(TRADER, 3) = 3",
            "isLeftOut(0) = false",
            "isLeftOut(1) = false",
            "come(HOUSE, 3) = 3",
            "left(HOUSE, 0) = 9",
            "left(HOUSE, 1) = 9");
    }

    private static void othersAreNeverStale() {
        EDGES.run("a REPLACE and a CANCEL of 21 ticks go again",
            "on()",
            "order(buy, 9, 9) = 0",
            "settle()",
            "replace(0, 8, 8) = 1",
            "cancel(0) = 2",
            "garble(HOUSE, 0) = 3",
            "come(HOUSE, 2) = 2",
            "pass(21) = 4",
            "come(TRADER, 1) = 1",
            "onWay(HOUSE) = 5",
            "settle()",
            "out(HOUSE, 0) = 8",
            "underWay(0) = 0");
        EDGES.run("REPORTs of 21 ticks go again",
            "on()",
            "order(buy, 9, 9) = 0",
            "come(HOUSE, 1) = 1",
            "quote(0, buy, 9, 4) = 1",
            "garble(TRADER, 0) = 2",
            "come(TRADER, 2) = 2",
            "pass(21) = 4",
            "come(HOUSE, 1) = 1",
            "onWay(TRADER) = 5",
            "settle()",
            "book(TRADER, 0) = 5 4 4 0",
            "isLeftOut(0) = false");
    }

    private static void leftOutThen() {
        EDGES.run("not before the answer; and for good, as long as it is PENDING",
            "on()",
            "2 times order(buy, 9, 9)",
            "garble(HOUSE, 0) = 2",
            "come(HOUSE, 2) = 2",
            "pass(21) = 4",
            "isLeftOut(0) = false",
            "come(TRADER, 1) = 1",
            "isLeftOut(0) = true",
            "settle()",
            "isLeftOut(0) = true",
            "cut() = 0",
            "connect(reset)",
            "settle()",
            "isLeftOut(0) = true",
            "cancel(0) = 1",
            "settle()",
            "underWay(0) = 0",
            "isLeftOut(0) = true");
    }
}
