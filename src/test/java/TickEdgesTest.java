/** The edges that the document names under "Ticks". */
public final class TickEdgesTest {
    private static final Edges EDGES = new Edges("TickEdgesTest");

    public static void main(String[] args) {
        grows();
        eachSideThatIsOn();
        beat();
        beatBehindWhatWentAgain();
        test();
        whatCounts();
        beatAheadOfTest();
        down();
        otherSide();
        fromTheConnecting();
        EDGES.end();
    }

    private static void grows() {
        EDGES.says("Ticks are counted from 0. When a tick passes, the count grows by 1;");
        EDGES.run("one at a time or many at once",
            "on()",
            "9 times pass(1) = 0",
            "pass(1) = 2",
            "come(TRADER, 1) = 1",
            "come(HOUSE, 1) = 1",
            "pass(9) = 0",
            "pass(1) = 2");
        EDGES.run("many at once send as much as one at a time",
            "on()",
            "pass(25) = 5",
            "sent(TRADER) = 4",
            "sent(HOUSE) = 3");
    }

    private static void eachSideThatIsOn() {
        EDGES.says("then, for each side that is on, the TRADER first:");
        EDGES.run("none is on",
            "connect(false)",
            "pass(50) = 0",
            "isUp() = true",
            "onWay(TRADER) = 1",
            "onWay(HOUSE) = 1");
        EDGES.run("the house alone is on",
            "connect(false)",
            "come(HOUSE, 1) = 1",
            "pass(9) = 0",
            "pass(1) = 1",
            "sent(TRADER) = 1",
            "sent(HOUSE) = 2");
        EDGES.run("the trader alone is on",
            "connect(false)",
            "come(TRADER, 1) = 1",
            "pass(9) = 0",
            "pass(1) = 1",
            "sent(TRADER) = 2",
            "sent(HOUSE) = 1");
        EDGES.run("none when the line is down",
            "on()",
            "cut() = 0",
            "pass(50) = 0");
    }

    private static void beat() {
        EDGES.says("if it has sent nothing for 10 ticks or more, messages that went again included, it sends a BEAT;");
        EDGES.run("9 ticks and 10",
            "on()",
            "pass(9) = 0",
            "pass(1) = 2",
            "last(TRADER) = 35=1 34=2 10=72",
            "last(HOUSE) = 35=1 34=2 10=72",
            "come(TRADER, 1) = 1",
            "come(HOUSE, 1) = 1",
            "pass(9) = 0",
            "pass(1) = 2");
        EDGES.run("more than 10: it was not on when it was 10",
            "connect(false)",
            "come(HOUSE, 1) = 1",
            "pass(12) = 1",
            "come(TRADER, 1) = 1",
            "pass(1) = 1",
            "last(TRADER) = 35=1 34=2 10=72");
        EDGES.run("from what it sent last: an ORDER, an ACK",
            "on()",
            "pass(4) = 0",
            "order(buy, 9, 9) = 0",
            "come(HOUSE, 1) = 1",
            "pass(9) = 0",
            "pass(1) = 2");
        EDGES.run("from a BEAT and a TEST",
            "on()",
            "pass(10) = 2",
            "come(TRADER, 1) = 1",
            "pass(5) = 1",
            "last(HOUSE) = 35=2 34=3 10=74",
            "pass(4) = 0",
            "pass(1) = 1",
            "last(TRADER) = 35=1 34=3 10=73",
            "pass(4) = 0",
            "pass(1)",
            "sent(HOUSE) = 4");
        EDGES.run("a quote that makes no execution sends nothing",
            "on()",
            "pass(9) = 0",
            "quote(0, buy, 9, 9) = 0",
            "endDay() = 1",
            "pass(1) = 2");
    }

    private static void beatBehindWhatWentAgain() {
        EDGES.run("ORDERs that went again 9 and 10 ticks ago",
            "on()",
            "2 times order(buy, 9, 9)",
            "garble(HOUSE, 0) = 2",
            "pass(6) = 0",
            "come(HOUSE, 2) = 2",
            "come(TRADER, 1) = 1",
            "pass(9) = 0",
            "pass(1) = 2");
        EDGES.run("a FILL alone that went 9 and 10 ticks ago",
            "on()",
            "pass(10) = 2",
            "garble(HOUSE, 0) = 2",
            "come(HOUSE, 1) = 1",
            "come(TRADER, 1) = 1",
            "pass(10) = 2",
            "come(HOUSE, 1) = 1",
            "come(TRADER, 1) = 1",
            "last(TRADER) = 35=1 34=4 10=74",
            "pass(3) = 0",
            "come(TRADER, 1) = 1",
            "onWay(HOUSE) = 2",
            "pass(9) = 1",
            "sent(TRADER) = 4",
            "pass(1) = 1",
            "sent(TRADER) = 5");
    }

    private static void test() {
        EDGES.says("then, if nothing that was not lost has come to it for just 15 ticks, it sends a TEST;");
        EDGES.run("14 ticks, 15, and no more at 16 and behind",
            "on()",
            "pass(14) = 2",
            "pass(1) = 2",
            "last(TRADER) = 35=2 34=3 10=74",
            "last(HOUSE) = 35=2 34=3 10=74",
            "pass(1) = 0",
            "pass(8) = 0");
        EDGES.run("one side alone",
            "on()",
            "pass(10) = 2",
            "come(HOUSE, 1) = 1",
            "pass(4) = 0",
            "pass(1) = 1",
            "last(TRADER) = 35=2 34=3 10=74",
            "last(HOUSE) = 35=1 34=2 10=72");
        EDGES.run("once more when something has come and then nothing for 15 ticks",
            "on()",
            "pass(15) = 4",
            "come(TRADER, 2) = 2",
            "come(HOUSE, 2) = 2",
            "sent(TRADER) = 4",
            "come(TRADER, 1) = 1",
            "come(HOUSE, 1) = 1",
            "pass(14) = 2",
            "pass(1) = 2",
            "last(TRADER) = 35=2 34=6 10=77");
        EDGES.run("the side was not on at 15",
            "connect(false)",
            "come(HOUSE, 1) = 1",
            "pass(15) = 2",
            "come(TRADER, 1) = 1",
            "pass(1) = 1",
            "last(TRADER) = 35=1 34=2 10=72");
    }

    private static void whatCounts() {
        EDGES.run("a garbled message does not count as come",
            "on()",
            "pass(5) = 0",
            "order(buy, 9, 9) = 0",
            "garble(HOUSE, 0) = 2",
            "come(HOUSE, 1) = 1",
            "pass(9) = 1",
            "pass(1) = 3",
            "last(HOUSE) = 35=2 34=3 10=74");
        EDGES.run("one that is held back counts",
            "on()",
            "2 times order(buy, 9, 9)",
            "garble(HOUSE, 0) = 2",
            "pass(5) = 0",
            "come(HOUSE, 2) = 2",
            "pass(9) = 1",
            "pass(1) = 2",
            "last(HOUSE) = 35=1 34=3 10=73",
            "pass(4) = 0",
            "pass(1) = 1",
            "last(HOUSE) = 35=2 34=4 10=75");
        EDGES.run("one with a number that is less counts",
            "on()",
            "2 times order(buy, 9, 9)",
            "garble(HOUSE, 0) = 2",
            "come(HOUSE, 2) = 2",
            "come(TRADER, 1) = 1",
            "come(HOUSE, 1) = 1",
            "expected(HOUSE) = 4",
            "pass(7) = 0",
            "come(TRADER, 2) = 2",
            "come(HOUSE, 1) = 1",
            "expected(HOUSE) = 4",
            "pass(8) = 2",
            "pass(6) = 2",
            "pass(1) = 2",
            "last(HOUSE) = 35=2 34=7 10=78");
    }

    private static void beatAheadOfTest() {
        EDGES.run("both in one tick: the BEAT is sent first",
            "on()",
            "pass(5) = 0",
            "order(buy, 9, 9) = 0",
            "pass(9) = 1",
            "pass(1) = 3",
            "message(TRADER, 3) = 35=1 34=3 10=73",
            "message(TRADER, 4) = 35=2 34=4 10=75");
    }

    private static void down() {
        EDGES.says("if for 25 ticks or more, the line goes down");
        EDGES.run("24 ticks and 25",
            "on()",
            "pass(24) = 4",
            "isUp() = true",
            "pass(1) = 1",
            "isUp() = false",
            "onWay(TRADER) = 0",
            "onWay(HOUSE) = 0");
        EDGES.run("something came to both at 24",
            "on()",
            "pass(24) = 4",
            "come(TRADER, 1) = 1",
            "come(HOUSE, 1) = 1",
            "pass(1) = 2",
            "isUp() = true");
        EDGES.run("in the midst of many ticks",
            "on()",
            "pass(50) = 5",
            "isUp() = false",
            "pass(50) = 0");
        EDGES.run("only if the side is on",
            "connect(false)",
            "pass(50) = 0",
            "come(HOUSE, 1) = 1",
            "pass(24) = 3",
            "isUp() = true",
            "pass(1) = 1",
            "isUp() = false");
    }

    private static void otherSide() {
        EDGES.says("(so that the other side does nothing any more in this tick, if it would come behind)");
        EDGES.run("by the trader: the house does nothing any more",
            "on()",
            "pass(24) = 4",
            "come(HOUSE, 1) = 1",
            "pass(1) = 1",
            "isUp() = false",
            "sent(TRADER) = 4",
            "sent(HOUSE) = 3");
        EDGES.run("by the house: the trader has done its part",
            "on()",
            "pass(24) = 4",
            "come(TRADER, 1) = 1",
            "pass(1) = 2",
            "isUp() = false",
            "sent(TRADER) = 4",
            "sent(HOUSE) = 4");
    }

    private static void fromTheConnecting() {
        EDGES.says("When the line is connected, both count as from then.");
        EDGES.run("ticks ahead of it count for nothing",
            "pass(50) = 0",
            "connect(false)",
            "come(TRADER, 1) = 1",
            "come(HOUSE, 1) = 1",
            "pass(9) = 0",
            "pass(1) = 2",
            "pass(4) = 0",
            "pass(1) = 2");
        EDGES.run("nor what was sent while it was down",
            "on()",
            "order(buy, 9, 9) = 0",
            "settle()",
            "cut() = 0",
            "pass(6) = 0",
            "connect(false)",
            "settle()",
            "pass(9) = 0",
            "pass(1) = 2");
        EDGES.run("sent counts from the connecting, not from the coming of the LOGON",
            "connect(false)",
            "pass(14) = 0",
            "come(TRADER, 1) = 1",
            "come(HOUSE, 1) = 1",
            "pass(1) = 2",
            "last(TRADER) = 35=1 34=2 10=72",
            "last(HOUSE) = 35=1 34=2 10=72");
    }
}
