/** The edges that the document names under "The line and the session", up to what is worked off. */
public final class SessionEdgesTest {
    private static final Edges EDGES = new Edges("SessionEdgesTest");

    public static void main(String[] args) {
        downAtFirst();
        connected();
        onAndOff();
        goesDown();
        forgetsWhatItAskedFor();
        reset();
        expectsOneAtFirst();
        lost();
        inThisOrder();
        logon();
        resendAtOnce();
        numberIsLess();
        fillIsLess();
        numberIsGreater();
        inPlaceOfOne();
        fillInPlaceOfAnOrder();
        asksAgain();
        asksForAnotherNumber();
        oneMore();
        nextOfAFill();
        thrownAway();
        takenAndSoOn();
        workedOff();
        EDGES.end();
    }

    private static void downAtFirst() {
        EDGES.says("The line is down at first.");
        EDGES.run("nothing can be done with it",
            "isUp() = false",
            "cut() = IllegalStateException",
            "order(buy, 1, 1) = IllegalStateException",
            "come(TRADER, 1) = 0",
            "come(HOUSE, 100) = 0",
            "pass(50) = 0",
            "isUp() = false");
    }

    private static void connected() {
        EDGES.says("When it is connected, it is up, and each side, the TRADER first, sends a LOGON.");
        EDGES.run("once, not twice",
            "connect(false)",
            "isUp() = true",
            "sent(TRADER) = 1",
            "sent(HOUSE) = 1",
            "onWay(TRADER) = 1",
            "onWay(HOUSE) = 1",
            "valueAt(TRADER, 1, 0) = LOGON",
            "valueAt(HOUSE, 1, 0) = LOGON",
            "connect(false) = IllegalStateException",
            "connect(reset) = IllegalStateException",
            "onWay(HOUSE) = 1");
        EDGES.run("up until it is cut, then again",
            "connect(reset)",
            "cut() = 2",
            "isUp() = false",
            "connect(false)",
            "isUp() = true",
            "sent(TRADER) = 2",
            "valueAt(TRADER, 2, 0) = LOGON",
            "onWay(HOUSE) = 1");
    }

    private static void onAndOff() {
        EDGES.says("A side is on from a LOGON that comes to it until the line goes down.");
        EDGES.run("not when the line is up, but when the LOGON comes, to each side by itself",
            "isOn(TRADER) = false",
            "connect(false)",
            "isOn(TRADER) = false",
            "isOn(HOUSE) = false",
            "come(TRADER, 1) = 1",
            "isOn(TRADER) = true",
            "isOn(HOUSE) = false",
            "come(HOUSE, 1) = 1",
            "isOn(HOUSE) = true",
            "cut() = 0",
            "isOn(TRADER) = false",
            "isOn(HOUSE) = false");
        EDGES.run("until it goes down by itself",
            "on()",
            "pass(24) = 4",
            "isOn(TRADER) = true",
            "isOn(HOUSE) = true",
            "pass(1) = 1",
            "isOn(TRADER) = false",
            "isOn(HOUSE) = false");
        EDGES.run("not on again until the next LOGON comes",
            "on()",
            "cut() = 0",
            "connect(false)",
            "isOn(HOUSE) = false",
            "order(buy, 1, 1) = IllegalStateException",
            "come(TRADER, 1) = 1",
            "order(buy, 1, 1) = 0");
    }

    private static void goesDown() {
        EDGES.says("When the line goes down, all messages on it are lost, and each side forgets what it holds back"
            + " and what it has asked for.");
        EDGES.run("none on it",
            "on()",
            "cut() = 0");
        EDGES.run("one on it, garbled",
            "on()",
            "order(buy, 9, 9) = 0",
            "garble(HOUSE, 0) = 2",
            "cut() = 1",
            "onWay(HOUSE) = 0");
        EDGES.run("many on it, both ways, those that go again too",
            "on()",
            "5 times order(buy, 9, 9)",
            "garble(HOUSE, 0) = 2",
            "come(HOUSE, 2) = 2",
            "come(TRADER, 1) = 1",
            "onWay(HOUSE) = 8",
            "pass(10) = 2",
            "cut() = 10",
            "onWay(HOUSE) = 0",
            "onWay(TRADER) = 0",
            "connect(false)",
            "onWay(HOUSE) = 1");
        EDGES.run("what is held back does not count, and is forgotten",
            "on()",
            "3 times order(buy, 9, 9)",
            "garble(HOUSE, 0) = 2",
            "come(HOUSE, 3) = 3",
            "held(HOUSE) = 2",
            "onWay(TRADER) = 1",
            "cut() = 1",
            "held(HOUSE) = 0",
            "connect(false)",
            "come(HOUSE, 1) = 1",
            "held(HOUSE) = 1",
            "come(TRADER, 2) = 2",
            "garble(HOUSE, 2) = 3",
            "come(HOUSE, 3) = 3",
            "expected(HOUSE) = 3");
        EDGES.run("down by itself",
            "on()",
            "2 times order(buy, 9, 9)",
            "garble(HOUSE, 0) = 2",
            "come(HOUSE, 2) = 2",
            "pass(25)",
            "isUp() = false",
            "held(HOUSE) = 0",
            "onWay(TRADER) = 0",
            "onWay(HOUSE) = 0");
    }

    private static void forgetsWhatItAskedFor() {
        EDGES.run("it asks for the same number at once when it is on again",
            "on()",
            "2 times order(buy, 9, 9)",
            "garble(HOUSE, 0) = 2",
            "come(HOUSE, 2) = 2",
            "message(HOUSE, 2) = 35=3 34=2 7=2 10=83",
            "cut() = 1",
            "connect(false)",
            "sent(HOUSE) = 3",
            "come(HOUSE, 1) = 1",
            "sent(HOUSE) = 4",
            "message(HOUSE, 4) = 35=3 34=4 7=2 10=85");
    }

    private static void reset() {
        EDGES.says("The line can be connected with a reset: ahead of all else both sides number from 1 on again, expect"
            + " the number 1, and have forgotten all messages that they kept; orders, books, requests under way, quotes,"
            + " executions, ticks and days stay.");
        EDGES.run("of a new object nothing is reset",
            "connect(reset)",
            "sent(TRADER) = 1",
            "expected(TRADER) = 1",
            "endDay() = 1");
        EDGES.run("without it, all goes on",
            "on()",
            "order(buy, 9, 9) = 0",
            "settle()",
            "cut() = 0",
            "connect(false)",
            "sent(TRADER) = 3",
            "expected(TRADER) = 3",
            "fields(TRADER, 2) = 7");
        EDGES.run("with it: the LOGONs are the first messages, no other is kept",
            "on()",
            "order(buy, 9, 9) = 0",
            "settle()",
            "cut() = 0",
            "sent(TRADER) = 2",
            "connect(reset)",
            "sent(TRADER) = 1",
            "sent(HOUSE) = 1",
            "expected(TRADER) = 1",
            "expected(HOUSE) = 1",
            "message(TRADER, 1) = 35=0 34=1 10=70",
            "fields(TRADER, 2) = IndexOutOfBoundsException",
            "fields(HOUSE, 2) = IndexOutOfBoundsException",
            "come(TRADER, 1) = 1",
            "come(HOUSE, 1) = 1",
            "expected(TRADER) = 2",
            "order(buy, 9, 9) = 1",
            "valueAt(TRADER, 2, 3) = 0",
            "valueAt(TRADER, 2, 2) = 1");
        EDGES.run("what the line is not",
            "on()",
            "order(buy, 9, 9) = 0",
            "order(buy, 3, 8) = 1",
            "quote(2, buy, 7, 5) = 0",
            "settle()",
            "cancel(1) = 1",
            "bust(0) = 0",
            "endDay() = 1",
            "cut() = 2",
            "connect(reset)",
            "orders() = 2",
            "executions() = 1",
            "bust(0) = IllegalStateException",
            "book(HOUSE, 0) = 4 0 0 5",
            "book(TRADER, 0) = 4 5 5 0",
            "stateOf(0) = LIVE",
            "underWay(1) = 1",
            "quoted(2, buy) = 0",
            "quote(2, buy, 7, 1) = 1",
            "endDay() = 2");
        EDGES.run("ticks stay: those of before do not count for a BEAT, nor start anew for one",
            "pass(7) = 0",
            "connect(reset)",
            "come(TRADER, 1) = 1",
            "come(HOUSE, 1) = 1",
            "pass(9) = 0",
            "pass(1) = 2");
    }

    private static void expectsOneAtFirst() {
        EDGES.says("Each side expects a number, 1 at first.");
        EDGES.run("until the first message came",
            "expected(TRADER) = 1",
            "expected(HOUSE) = 1",
            "connect(false)",
            "expected(TRADER) = 1",
            "come(HOUSE, 1) = 1",
            "expected(HOUSE) = 2",
            "expected(TRADER) = 1",
            "cut() = 1",
            "expected(HOUSE) = 2");
    }

    private static void lost() {
        EDGES.says("A message that comes to a side is lost, if it is garbled, or if the side is not on and it is no LOGON.");
        EDGES.run("a garbled LOGON",
            "connect(false)",
            "garble(TRADER, 0) = 1",
            "come(TRADER, 1) = 1",
            "isOn(TRADER) = false",
            "expected(TRADER) = 1");
        EDGES.run("a garbled message with the expected number",
            "on()",
            "order(buy, 9, 9) = 0",
            "garble(HOUSE, 0) = 2",
            "come(HOUSE, 1) = 1",
            "expected(HOUSE) = 2",
            "left(HOUSE, 0) = NONE",
            "sent(HOUSE) = 1");
        EDGES.run("a garbled one behind a gap is not held back and asks for nothing",
            "on()",
            "2 times order(buy, 9, 9)",
            "garble(HOUSE, 0) = 2",
            "garble(HOUSE, 1) = 3",
            "come(HOUSE, 2) = 2",
            "held(HOUSE) = 0",
            "sent(HOUSE) = 1");
        EDGES.run("a garbled RESEND is not answered",
            "on()",
            "2 times order(buy, 9, 9)",
            "garble(HOUSE, 0) = 2",
            "come(HOUSE, 2) = 2",
            "garble(TRADER, 0) = 2",
            "come(TRADER, 1) = 1",
            "onWay(HOUSE) = 0");
        EDGES.run("what comes to a side that is not on: neither worked off nor held back",
            "connect(false)",
            "come(TRADER, 1) = 1",
            "garble(HOUSE, 0) = 1",
            "2 times order(buy, 9, 9)",
            "come(HOUSE, 3) = 3",
            "isOn(HOUSE) = false",
            "expected(HOUSE) = 1",
            "held(HOUSE) = 0",
            "sent(HOUSE) = 1");
        EDGES.run("a RESEND to a side that is not on",
            "on()",
            "order(buy, 9, 9) = 0",
            "garble(HOUSE, 0) = 2",
            "come(HOUSE, 1) = 1",
            "cut() = 0",
            "connect(false)",
            "garble(TRADER, 0) = 2",
            "come(HOUSE, 1) = 1",
            "message(HOUSE, 3) = 35=3 34=3 7=2 10=84",
            "come(TRADER, 2) = 2",
            "onWay(HOUSE) = 0",
            "expected(TRADER) = 2");
        EDGES.run("a LOGON to a side that is not on is not",
            "connect(false)",
            "come(HOUSE, 1) = 1",
            "isOn(HOUSE) = true",
            "expected(HOUSE) = 2");
    }

    private static void inThisOrder() {
        EDGES.says("Otherwise, in this order: - A LOGON makes the side on. A RESEND is answered at once.");
        EDGES.run("a RESEND with a greater number is answered ahead of the RESEND that its number asks for",
            "on()",
            "2 times order(buy, 9, 9)",
            "garble(HOUSE, 0) = 2",
            "come(HOUSE, 2) = 2",
            "garble(TRADER, 0) = 2",
            "come(TRADER, 1) = 1",
            "pass(5) = 0",
            "order(buy, 9, 9) = 2",
            "come(HOUSE, 1) = 1",
            "come(TRADER, 1) = 1",
            "last(TRADER) = 35=3 34=5 7=2 10=86",
            "onWay(HOUSE) = 4",
            "garble(HOUSE, 0) = 2",
            "garble(HOUSE, 1) = 3",
            "garble(HOUSE, 2) = 4",
            "garble(HOUSE, 3) = 5");
        EDGES.run("a LOGON with a greater number makes the side on ahead of all else, so that it asks at once",
            "connect(false)",
            "cut() = 2",
            "connect(false)",
            "come(HOUSE, 1) = 1",
            "isOn(HOUSE) = true",
            "held(HOUSE) = 1",
            "last(HOUSE) = 35=3 34=3 7=1 10=83");
    }

    private static void logon() {
        EDGES.says("A LOGON makes the side on.");
        EDGES.run("one with the expected number",
            "connect(false)",
            "come(TRADER, 1) = 1",
            "isOn(TRADER) = true",
            "expected(TRADER) = 2",
            "held(TRADER) = 0");
        EDGES.run("one with a greater number is held back besides",
            "connect(false)",
            "cut() = 2",
            "connect(false)",
            "come(TRADER, 1) = 1",
            "isOn(TRADER) = true",
            "expected(TRADER) = 1",
            "held(TRADER) = 1",
            "last(TRADER) = 35=3 34=3 7=1 10=83");
    }

    private static void resendAtOnce() {
        EDGES.says("A RESEND is answered at once.");
        EDGES.run("one with the expected number",
            "on()",
            "2 times order(buy, 9, 9)",
            "garble(HOUSE, 0) = 2",
            "come(HOUSE, 2) = 2",
            "come(TRADER, 1) = 1",
            "expected(TRADER) = 3",
            "onWay(HOUSE) = 2");
        EDGES.run("one with a greater number, ahead of what it asks for itself; not again when it is taken",
            "on()",
            "3 times order(buy, 9, 9)",
            "come(HOUSE, 1) = 1",
            "garble(HOUSE, 0) = 3",
            "come(HOUSE, 2) = 2",
            "garble(TRADER, 0) = 2",
            "come(TRADER, 2) = 2",
            "expected(TRADER) = 2",
            "held(TRADER) = 1",
            "onWay(HOUSE) = 3",
            "garble(HOUSE, 2) = 5",
            "come(HOUSE, 2) = 2",
            "expected(HOUSE) = 5",
            "cut()");
        EDGES.run("not again when it is taken from what is held back",
            "on()",
            "3 times order(buy, 9, 9)",
            "come(HOUSE, 1) = 1",
            "garble(HOUSE, 0) = 3",
            "come(HOUSE, 2) = 2",
            "garble(TRADER, 0) = 2",
            "come(TRADER, 2) = 2",
            "come(HOUSE, 3) = 3",
            "garble(TRADER, 0) = 4",
            "garble(TRADER, 1) = 5",
            "come(TRADER, 2) = 2",
            "onWay(TRADER) = 4",
            "held(TRADER) = 1",
            "come(TRADER, 1) = 1",
            "expected(TRADER) = 4",
            "held(TRADER) = 0",
            "onWay(HOUSE) = 0");
    }

    private static void numberIsLess() {
        EDGES.says("If its number is less than the expected one, nothing more happens, of a FILL neither.");
        EDGES.run("an ORDER and a CANCEL that come twice, the last of them one less than expected",
            "on()",
            "order(buy, 9, 9) = 0",
            "cancel(0) = 1",
            "order(buy, 8, 8) = 1",
            "garble(HOUSE, 0) = 2",
            "come(HOUSE, 2) = 2",
            "garble(HOUSE, 0) = 4",
            "come(HOUSE, 1) = 1",
            "come(TRADER, 1) = 1",
            "garble(HOUSE, 2) = 4",
            "come(HOUSE, 1) = 1",
            "expected(HOUSE) = 4",
            "sent(HOUSE) = 4",
            "come(HOUSE, 1) = 1",
            "expected(HOUSE) = 4",
            "sent(HOUSE) = 4",
            "held(HOUSE) = 0");
    }

    /** The first FILL is from 2 to 6, the second from 2 to 7; it comes, garbled or whole, when 6 is expected. */
    private static void fillIsLess() {
        for (int number : new int[] {2, 6}) {
            EDGES.run("a FILL whose next number is greater than the expected one, with " + number + " garbled too",
                "on()",
                "pass(10) = 2",
                "garble(HOUSE, 0) = 2",
                "come(HOUSE, 1) = 1",
                "come(TRADER, 1) = 1",
                "pass(10) = 2",
                "come(HOUSE, 1) = 1",
                "last(HOUSE) = 35=3 34=4 7=2 10=85",
                "come(TRADER, 1) = 1",
                "pass(10) = 2",
                "come(HOUSE, 1) = 1",
                "last(HOUSE) = 35=3 34=6 7=2 10=87",
                "come(TRADER, 1) = 1",
                "onWay(HOUSE) = 2",
                "pass(10) = 2",
                "come(TRADER, 2) = 2",
                "onWay(HOUSE) = 4",
                "come(HOUSE, 2) = 2",
                "expected(HOUSE) = 6",
                "garble(HOUSE, 0) = 6",
                number == 2 ? "garble(HOUSE, 1) = 2" : "onWay(HOUSE) = 2",
                "come(HOUSE, 2) = 2",
                "expected(HOUSE) = 6",
                "held(HOUSE) = 0");
        }
    }

    private static void numberIsGreater() {
        EDGES.says("If its number is greater, it is held back, in place of one with the same number;");
        EDGES.run("the expected one is not",
            "on()",
            "order(buy, 9, 9) = 0",
            "come(HOUSE, 1) = 1",
            "held(HOUSE) = 0");
        EDGES.run("one greater",
            "on()",
            "2 times order(buy, 9, 9)",
            "garble(HOUSE, 0) = 2",
            "come(HOUSE, 2) = 2",
            "held(HOUSE) = 1",
            "held(TRADER) = 0",
            "expected(HOUSE) = 2",
            "left(HOUSE, 1) = NONE");
        EDGES.run("many greater, gaps among them",
            "on()",
            "40 times order(buy, 9, 9)",
            "garble(HOUSE, 0) = 2",
            "garble(HOUSE, 20) = 22",
            "come(HOUSE, 40) = 40",
            "held(HOUSE) = 38");
    }

    private static void inPlaceOfOne() {
        EDGES.run("the same one comes again",
            "on()",
            "2 times order(buy, 9, 9)",
            "garble(HOUSE, 0) = 2",
            "come(HOUSE, 2) = 2",
            "come(TRADER, 1) = 1",
            "garble(HOUSE, 0) = 2",
            "come(HOUSE, 2) = 2",
            "held(HOUSE) = 1");
    }

    /** The ORDER 4 is held back; 21 ticks later a FILL with its number takes its place, so that it never comes. */
    private static void fillInPlaceOfAnOrder() {
        EDGES.run("a FILL in place of an ORDER",
            "on()",
            "order(buy, 9, 9) = 0",
            "come(HOUSE, 1) = 1",
            "come(TRADER, 1) = 1",
            "cancel(0) = 1",
            "order(buy, 8, 8) = 1",
            "garble(HOUSE, 0) = 3",
            "come(HOUSE, 2) = 2",
            "held(HOUSE) = 1",
            "pass(21) = 4",
            "come(TRADER, 1) = 1",
            "isLeftOut(1) = true",
            "come(HOUSE, 2) = 2",
            "held(HOUSE) = 3",
            "garble(HOUSE, 0) = 3",
            "come(HOUSE, 2) = 2",
            "held(HOUSE) = 3",
            "come(TRADER, 3) = 3",
            "garble(HOUSE, 0) = 7",
            "come(HOUSE, 1) = 1",
            "come(HOUSE, 1) = 1",
            "out(HOUSE, 0) = 9",
            "left(HOUSE, 1) = NONE",
            "expected(HOUSE) = 7",
            "held(HOUSE) = 0");
    }

    private static void asksAgain() {
        EDGES.says("and the side sends a RESEND from the expected number on, unless it has asked for this very number"
            + " less than 5 ticks ago.");
        for (int ticks = 0; ticks <= 6; ticks++) {
            EDGES.run(ticks + " ticks later",
                "on()",
                "3 times order(buy, 9, 9)",
                "garble(HOUSE, 0) = 2",
                "come(HOUSE, 2) = 2",
                "sent(HOUSE) = 2",
                ticks == 0 ? "isUp() = true" : "pass(" + ticks + ") = 0",
                "come(HOUSE, 1) = 1",
                "sent(HOUSE) = " + (ticks < 5 ? 2 : 3));
        }
        EDGES.run("5 ticks count from the last time that it asked",
            "on()",
            "5 times order(buy, 9, 9)",
            "garble(HOUSE, 0) = 2",
            "come(HOUSE, 2) = 2",
            "pass(5) = 0",
            "come(HOUSE, 1) = 1",
            "sent(HOUSE) = 3",
            "pass(4) = 0",
            "come(HOUSE, 1) = 1",
            "sent(HOUSE) = 3",
            "pass(1) = 1",
            "come(HOUSE, 1) = 1",
            "sent(HOUSE) = 4");
    }

    private static void asksForAnotherNumber() {
        EDGES.run("it asks for another number at once",
            "on()",
            "4 times order(buy, 9, 9)",
            "garble(HOUSE, 0) = 2",
            "garble(HOUSE, 2) = 4",
            "come(HOUSE, 4) = 4",
            "sent(HOUSE) = 2",
            "come(TRADER, 1) = 1",
            "garble(HOUSE, 2) = 4",
            "come(HOUSE, 3) = 3",
            "expected(HOUSE) = 4",
            "sent(HOUSE) = 4",
            "come(HOUSE, 1) = 1",
            "sent(HOUSE) = 5",
            "last(HOUSE) = 35=3 34=5 7=4 10=88");
    }

    private static void oneMore() {
        EDGES.says("If its number is the expected one, that is 1 more, or by a FILL its next number, if this is greater;"
            + " and the message is worked off.");
        EDGES.run("1 more",
            "on()",
            "3 times order(buy, 9, 9)",
            "come(HOUSE, 1) = 1",
            "expected(HOUSE) = 3",
            "left(HOUSE, 0) = 9",
            "left(HOUSE, 1) = NONE",
            "come(HOUSE, 1) = 1",
            "expected(HOUSE) = 4",
            "left(HOUSE, 1) = 9");
        EDGES.run("by a FILL in place of one message, 1 more too",
            "on()",
            "pass(10) = 2",
            "garble(HOUSE, 0) = 2",
            "order(buy, 9, 9) = 0",
            "come(HOUSE, 2) = 2",
            "come(TRADER, 2) = 2",
            "garble(HOUSE, 1) = 3",
            "come(HOUSE, 1) = 1",
            "expected(HOUSE) = 4",
            "left(HOUSE, 0) = 9");
    }

    /** The ORDER 5, behind the FILL from 2 to 5, is garbled, so that nothing else moves the expected number. */
    private static void nextOfAFill() {
        EDGES.run("by a FILL in place of three messages, 3 more",
            "on()",
            "pass(10) = 2",
            "come(TRADER, 1) = 1",
            "pass(10) = 2",
            "come(TRADER, 1) = 1",
            "garble(HOUSE, 0) = 2",
            "garble(HOUSE, 1) = 3",
            "garble(HOUSE, 2) = 4",
            "2 times order(buy, 9, 9)",
            "garble(HOUSE, 3) = 5",
            "come(HOUSE, 5) = 5",
            "held(HOUSE) = 1",
            "last(HOUSE) = 35=3 34=4 7=2 10=85",
            "come(TRADER, 1) = 1",
            "onWay(HOUSE) = 3",
            "garble(HOUSE, 1) = 5",
            "come(HOUSE, 1) = 1",
            "expected(HOUSE) = 5",
            "held(HOUSE) = 1");
    }

    private static void thrownAway() {
        EDGES.says("Then messages that are held back and have lower numbers than the expected one are thrown away,");
        EDGES.run("all below the next number of a FILL, none of those above",
            "on()",
            "pass(10) = 2",
            "come(TRADER, 1) = 1",
            "pass(10) = 2",
            "come(TRADER, 1) = 1",
            "garble(HOUSE, 0) = 2",
            "come(HOUSE, 3) = 3",
            "held(HOUSE) = 2",
            "3 times order(buy, 9, 9)",
            "garble(HOUSE, 0) = 5",
            "come(HOUSE, 3) = 3",
            "held(HOUSE) = 4",
            "come(TRADER, 1) = 1",
            "onWay(HOUSE) = 4",
            "come(HOUSE, 1) = 1",
            "expected(HOUSE) = 5",
            "held(HOUSE) = 2",
            "come(HOUSE, 1) = 1",
            "expected(HOUSE) = 8",
            "held(HOUSE) = 0",
            "left(HOUSE, 2) = 9");
    }

    private static void takenAndSoOn() {
        EDGES.says("and the one with the expected number, if there is one, is taken and treated like this, and so on.");
        EDGES.run("none",
            "on()",
            "order(buy, 9, 9) = 0",
            "come(HOUSE, 1) = 1",
            "expected(HOUSE) = 3");
        EDGES.run("one",
            "on()",
            "2 times order(buy, 9, 9)",
            "garble(HOUSE, 0) = 2",
            "come(HOUSE, 2) = 2",
            "come(TRADER, 1) = 1",
            "come(HOUSE, 1) = 1",
            "expected(HOUSE) = 4",
            "held(HOUSE) = 0",
            "left(HOUSE, 1) = 9");
        EDGES.run("many, up to the next gap",
            "on()",
            "40 times order(buy, 9, 9)",
            "garble(HOUSE, 0) = 2",
            "garble(HOUSE, 38) = 40",
            "come(HOUSE, 40) = 40",
            "come(TRADER, 1) = 1",
            "come(HOUSE, 1) = 1",
            "expected(HOUSE) = 40",
            "held(HOUSE) = 1",
            "left(HOUSE, 37) = 9",
            "left(HOUSE, 38) = NONE",
            "left(HOUSE, 39) = NONE",
            "sent(HOUSE) = 40");
    }

    private static void workedOff() {
        EDGES.says("Worked off, a TEST is answered by a BEAT;");
        EDGES.run("a TEST that comes, and no other message of the session",
            "on()",
            "pass(15) = 4",
            "come(HOUSE, 1) = 1",
            "sent(HOUSE) = 3",
            "come(HOUSE, 1) = 1",
            "sent(HOUSE) = 4",
            "last(HOUSE) = 35=1 34=4 10=74",
            "come(TRADER, 1) = 1",
            "sent(TRADER) = 3");
        EDGES.run("a TEST that is held back, when it is taken",
            "on()",
            "order(buy, 9, 9) = 0",
            "pass(15) = 4",
            "garble(HOUSE, 0) = 2",
            "come(HOUSE, 3) = 3",
            "held(HOUSE) = 2",
            "sent(HOUSE) = 4",
            "come(TRADER, 3) = 3",
            "come(HOUSE, 1) = 1",
            "held(HOUSE) = 3",
            "sent(HOUSE) = 4",
            "come(HOUSE, 1) = 1",
            "expected(HOUSE) = 6",
            "sent(HOUSE) = 6");
        EDGES.says("an ORDER, CANCEL, REPLACE and REPORT as told below; others do nothing.");
        EDGES.run("an ORDER, a REPLACE, a CANCEL, and the REPORTs of them",
            "on()",
            "order(buy, 9, 9) = 0",
            "replace(0, 8, 7) = 1",
            "cancel(0) = 2",
            "come(HOUSE, 3) = 3",
            "valueAt(HOUSE, 2, 2) = ACK",
            "valueAt(HOUSE, 3, 2) = REPLACED",
            "valueAt(HOUSE, 4, 2) = OUT",
            "book(TRADER, 0) = 0 0 0 0",
            "come(TRADER, 1) = 1",
            "book(TRADER, 0) = 9 0 0 0",
            "come(TRADER, 1) = 1",
            "book(TRADER, 0) = 7 0 0 0",
            "come(TRADER, 1) = 1",
            "book(TRADER, 0) = 0 0 0 7",
            "underWay(0) = 0");
        EDGES.run("a LOGON, a BEAT and a RESEND",
            "connect(false)",
            "come(TRADER, 1) = 1",
            "sent(TRADER) = 1",
            "come(HOUSE, 1) = 1",
            "pass(10) = 2",
            "come(TRADER, 1) = 1",
            "sent(TRADER) = 2");
    }
}
