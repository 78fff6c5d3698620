/** Promises 16 to 21: the trader's orders and requests. */
public final class OrdersTest {
    private static final int TRADER = TradeLine.TRADER;
    private static final int HOUSE = TradeLine.HOUSE;
    private static final Check CHECK = new Check("OrdersTest");

    public static void main(String[] args) {
        promise16();
        promise16Wrong();
        promise17();
        promise17Wrong();
        promise17AtTheHouse();
        promise18();
        promise18Wrong();
        promise18AtTheHouse();
        promise18CrossesAFill();
        promise19();
        promise19WithoutAck();
        promise20();
        promise20Acknowledged();
        promise21();
        CHECK.end();
    }

    private static void promise16() {
        TradeLine line = Lines.on();
        CHECK.is("order the first", line.order(false, 1, 100), 0);
        CHECK.is("order the second", line.order(true, 100, 1), 1);
        CHECK.is("two ORDERs on their way", line.onWay(HOUSE), 2);
        CHECK.is("the house has it not yet", line.left(HOUSE, 0), TradeLine.NONE);
        line.come(HOUSE, 2);
        CHECK.is("the house has it, all is left", line.left(HOUSE, 0), 100);
        CHECK.is("an ACK each", line.sent(HOUSE), 3);
        for (int order = 2; order < 40; order++) {
            CHECK.is("order", line.order(false, 1, 1), order);
        }
        CHECK.refuses("order 40", line, Check.STATE, () -> line.order(false, 1, 1));
        CHECK.refuses("order 40 with a wrong price", line, Check.ARGUMENT, () -> line.order(false, 0, 1));
        TradeLine half = new TradeLine();
        half.connect(false);
        half.come(TRADER, 1);
        CHECK.is("the house need not be on", half.order(false, 1, 1), 0);
    }

    private static void promise16Wrong() {
        TradeLine line = new TradeLine();
        CHECK.refuses("order when down", line, Check.STATE, () -> line.order(false, 1, 1));
        line.connect(false);
        line.come(HOUSE, 1);
        CHECK.refuses("order when the trader is not on", line, Check.STATE, () -> line.order(false, 1, 1));
        CHECK.refuses("size above, not on", line, Check.ARGUMENT, () -> line.order(false, 1, 101));
        line.come(TRADER, 1);
        for (int wrong : new int[] {0, 101, -1, Integer.MIN_VALUE, Integer.MAX_VALUE}) {
            CHECK.refuses("price " + wrong, line, Check.ARGUMENT, () -> line.order(false, wrong, 1));
            CHECK.refuses("size " + wrong, line, Check.ARGUMENT, () -> line.order(true, 1, wrong));
        }
    }

    private static void promise17() {
        TradeLine line = Lines.on();
        line.order(false, 9, 9);
        CHECK.is("cancel a PENDING one", line.cancel(0), 1);
        for (int i = 2; i <= 5; i++) {
            CHECK.is("cancel again", line.cancel(0), i);
        }
        CHECK.refuses("cancel with 5 under way", line, Check.STATE, () -> line.cancel(0));
        CHECK.refuses("replace with 5 under way", line, Check.STATE, () -> line.replace(0, 1, 1));
        CHECK.refuses("replace with 5 under way and a wrong size", line, Check.ARGUMENT, () -> line.replace(0, 1, 0));
        line.order(false, 9, 9);
        CHECK.is("of another order none is under way", line.cancel(1), 1);
        Lines.settle(line);
        CHECK.is("one OUT and four REFUSED", line.underWay(0), 0);
        CHECK.is("it is out", line.out(TRADER, 0), 9);
    }

    private static void promise17Wrong() {
        TradeLine line = new TradeLine();
        CHECK.refuses("cancel order 0 of none", line, Check.OUT_OF_BOUNDS, () -> line.cancel(0));
        line.connect(false);
        line.come(TRADER, 1);
        line.order(false, 1, 1);
        CHECK.refuses("cancel order 1 of one", line, Check.OUT_OF_BOUNDS, () -> line.cancel(1));
        CHECK.refuses("cancel order -1", line, Check.OUT_OF_BOUNDS, () -> line.cancel(-1));
        line.come(HOUSE, 9);
        line.come(TRADER, 9);
        line.cut();
        CHECK.refuses("cancel when down", line, Check.STATE, () -> line.cancel(0));
        CHECK.refuses("cancel none when down", line, Check.OUT_OF_BOUNDS, () -> line.cancel(1));
        line.connect(false);
        line.come(HOUSE, 9);
        CHECK.refuses("cancel when the trader is not on", line, Check.STATE, () -> line.cancel(0));
        line.come(TRADER, 9);
        line.quote(0, false, 1, 1);
        CHECK.is("over for the house, not for the trader: cancel", line.cancel(0), 1);
        line.come(TRADER, 9);
        CHECK.refuses("cancel an order that is OVER", line, Check.STATE, () -> line.cancel(0));
        Lines.settle(line);
        CHECK.is("REFUSED ends the request", line.underWay(0), 0);
        CHECK.is("and changes no book", line.done(TRADER, 0) * 10 + line.out(TRADER, 0), 10);
    }

    private static void promise17AtTheHouse() {
        TradeLine line = Lines.on();
        Lines.ordered(line, false, 9, 20);
        line.quote(0, false, 9, 5);
        line.cancel(0);
        line.come(HOUSE, 1);
        CHECK.is("what is left is out for the house", line.out(HOUSE, 0), 15);
        CHECK.is("nothing is left", line.left(HOUSE, 0), 0);
        CHECK.is("done stays", line.done(HOUSE, 0), 5);
        CHECK.is("quotes trade no more with it", line.quote(0, false, 9, 5), 0);
        CHECK.is("the trader does not know it yet", line.left(TRADER, 0), 20);
        line.come(TRADER, 9);
        CHECK.is("then it does", line.out(TRADER, 0), 15);
        CHECK.is("agree", line.agree(), true);
    }

    private static void promise18() {
        TradeLine line = Lines.on();
        Lines.ordered(line, true, 50, 10);
        CHECK.is("replace", line.replace(0, 40, 12), 1);
        CHECK.is("replace beside a cancel", line.cancel(0), 2);
        CHECK.is("price and size may be the same", line.replace(0, 50, 10), 3);
        line.come(HOUSE, 1);
        CHECK.is("left at the house", line.left(HOUSE, 0), 12);
        CHECK.is("left at the trader as before", line.left(TRADER, 0), 10);
        line.come(TRADER, 1);
        CHECK.is("left at the trader", line.left(TRADER, 0), 12);
        CHECK.is("REPLACED answers one", line.underWay(0), 2);
        Lines.settle(line);
        CHECK.is("OUT and REFUSED answer the others", line.underWay(0), 0);
        CHECK.is("out", line.out(TRADER, 0), 12);
    }

    private static void promise18Wrong() {
        TradeLine line = Lines.on();
        CHECK.refuses("replace none", line, Check.OUT_OF_BOUNDS, () -> line.replace(0, 0, 0));
        line.order(true, 50, 10);
        CHECK.refuses("replace -1", line, Check.OUT_OF_BOUNDS, () -> line.replace(-1, 1, 1));
        for (int wrong : new int[] {0, 101, Integer.MIN_VALUE, Integer.MAX_VALUE}) {
            CHECK.refuses("price " + wrong, line, Check.ARGUMENT, () -> line.replace(0, wrong, 1));
            CHECK.refuses("size " + wrong, line, Check.ARGUMENT, () -> line.replace(0, 1, wrong));
        }
        line.quote(0, true, 50, 10);
        Lines.settle(line);
        CHECK.refuses("replace an order that is OVER", line, Check.STATE, () -> line.replace(0, 1, 100));
        line.cut();
        CHECK.refuses("replace when down, wrong price", line, Check.ARGUMENT, () -> line.replace(0, 101, 1));
    }

    private static void promise18AtTheHouse() {
        TradeLine line = Lines.on();
        Lines.ordered(line, false, 50, 20);
        line.quote(0, false, 50, 8);
        line.bust(0);
        line.quote(0, false, 50, 4);
        Lines.settle(line);
        CHECK.is("done and out together", line.done(HOUSE, 0) * 100 + line.out(HOUSE, 0), 408);
        line.replace(0, 60, 12);
        line.come(HOUSE, 1);
        CHECK.same("a size that is just done and out: REFUSED", Lines.last(line, HOUSE), "35=8 150=4 37=0");
        line.replace(0, 60, 13);
        line.come(HOUSE, 1);
        CHECK.same("one more: REPLACED", Lines.last(line, HOUSE), "35=8 150=3 37=0 44=60 38=13");
        line.quote(1, false, 60, 50);
        line.replace(0, 61, 100);
        line.come(HOUSE, 1);
        CHECK.same("nothing of it is left: REFUSED", Lines.last(line, HOUSE), "35=8 150=4 37=0");
        Lines.settle(line);
        CHECK.is("agree", line.agree(), true);
        CHECK.is("state", line.stateOf(0), TradeLine.OVER);
        CHECK.is("no request is under way", line.underWay(0), 0);
    }

    private static void promise18CrossesAFill() {
        TradeLine line = Lines.on();
        Lines.ordered(line, false, 50, 20);
        line.quote(0, false, 55, 30);
        line.replace(0, 55, 10);
        line.come(HOUSE, 1);
        CHECK.is("replaced, then routed at the new price, up to the new size", line.done(HOUSE, 0), 10);
        CHECK.is("the quote is less by it", line.quoted(0, false), 20);
        line.come(TRADER, 1);
        CHECK.is("REPLACED comes first", line.left(TRADER, 0), 10);
        line.come(TRADER, 1);
        CHECK.is("then FILLED", line.left(TRADER, 0), 0);
    }

    private static void promise19() {
        TradeLine line = Lines.on();
        CHECK.refuses("stateOf none", line, Check.OUT_OF_BOUNDS, () -> line.stateOf(0));
        CHECK.refuses("stateOf -1", line, Check.OUT_OF_BOUNDS, () -> line.stateOf(-1));
        line.order(false, 5, 5);
        CHECK.is("PENDING", line.stateOf(0), TradeLine.PENDING);
        line.come(HOUSE, 1);
        CHECK.is("PENDING until the ACK comes", line.stateOf(0), TradeLine.PENDING);
        line.come(TRADER, 1);
        CHECK.is("LIVE", line.stateOf(0), TradeLine.LIVE);
        line.quote(0, false, 5, 4);
        Lines.settle(line);
        CHECK.is("LIVE with 1 left", line.stateOf(0), TradeLine.LIVE);
        line.quote(0, false, 5, 4);
        CHECK.is("LIVE until the FILLED comes", line.stateOf(0), TradeLine.LIVE);
        Lines.settle(line);
        CHECK.is("OVER", line.stateOf(0), TradeLine.OVER);
        line.bust(0);
        Lines.settle(line);
        CHECK.is("OVER when busted", line.stateOf(0), TradeLine.OVER);
    }

    /** The ACK is lost by a reset: the order is PENDING for good, whatever is told of it. */
    private static void promise19WithoutAck() {
        TradeLine line = Lines.on();
        line.order(false, 5, 5);
        line.come(HOUSE, 1);
        line.cut();
        line.connect(true);
        Lines.settle(line);
        line.quote(0, false, 5, 2);
        Lines.settle(line);
        CHECK.is("PENDING", line.stateOf(0), TradeLine.PENDING);
        CHECK.is("with nothing left", line.left(TRADER, 0), 0);
        CHECK.is("though something is done", line.done(TRADER, 0), 2);
        CHECK.is("the books are not the same", line.agree(), false);
        line.replace(0, 5, 4);
        Lines.settle(line);
        CHECK.is("PENDING when replaced", line.stateOf(0) * 10 + line.left(TRADER, 0), 0);
        line.cancel(0);
        Lines.settle(line);
        CHECK.is("out is told", line.out(TRADER, 0), 2);
        CHECK.is("PENDING when out", line.stateOf(0), TradeLine.PENDING);
        CHECK.is("the books are the same now", line.agree(), true);
    }

    private static TradeLine withOneLeftOut() {
        TradeLine line = Lines.on();
        line.order(false, 5, 5);
        line.garble(HOUSE, 0);
        line.come(HOUSE, 1);
        line.pass(21);
        line.come(HOUSE, 1);
        line.come(TRADER, 9);
        return line;
    }

    private static void promise20() {
        TradeLine line = withOneLeftOut();
        CHECK.refuses("isLeftOut none", line, Check.OUT_OF_BOUNDS, () -> line.isLeftOut(1) ? 1 : 0);
        CHECK.refuses("isLeftOut -1", line, Check.OUT_OF_BOUNDS, () -> line.isLeftOut(-1) ? 1 : 0);
        CHECK.is("left out", line.isLeftOut(0), true);
        line.order(false, 6, 6);
        CHECK.is("a new one is not", line.isLeftOut(1), false);
        Lines.settle(line);
        CHECK.is("the house has it not", line.done(HOUSE, 0), TradeLine.NONE);
        line.cancel(0);
        line.replace(0, 5, 5);
        Lines.settle(line);
        CHECK.is("both are REFUSED", line.underWay(0), 0);
        CHECK.same("REFUSED", Lines.last(line, HOUSE), "35=8 150=4 37=0");
        CHECK.is("left out still", line.isLeftOut(0), true);
        line.cut();
        line.connect(true);
        CHECK.is("left out behind a reset", line.isLeftOut(0), true);
    }

    /** A late second RESEND leaves out an order that the house has by then, so that its ACK is behind. */
    private static void promise20Acknowledged() {
        TradeLine line = Lines.on();
        line.order(false, 5, 5);
        line.garble(HOUSE, 0);
        line.order(false, 6, 6);
        line.come(HOUSE, 2);
        line.pass(5);
        line.order(false, 7, 7);
        line.come(HOUSE, 1);
        line.come(TRADER, 1);
        line.order(false, 8, 8);
        line.come(HOUSE, 4);
        CHECK.is("the house has all four", line.left(HOUSE, 3), 8);
        line.pass(21);
        line.come(TRADER, 1);
        CHECK.is("left out by the second answer, and PENDING still", line.isLeftOut(3), true);
        CHECK.is("those that have gone again go again", line.isLeftOut(0) || line.isLeftOut(1) || line.isLeftOut(2), false);
        Lines.settle(line);
        CHECK.is("acknowledged: LIVE", line.stateOf(3), TradeLine.LIVE);
        CHECK.is("and no more left out", line.isLeftOut(3), false);
        CHECK.is("agree", line.agree(), true);
    }

    private static void promise21() {
        TradeLine line = Lines.on();
        CHECK.refuses("underWay none", line, Check.OUT_OF_BOUNDS, () -> line.underWay(0));
        CHECK.refuses("underWay -1", line, Check.OUT_OF_BOUNDS, () -> line.underWay(-1));
        Lines.ordered(line, false, 5, 5);
        CHECK.is("none", line.underWay(0), 0);
        line.cancel(0);
        line.cancel(0);
        line.come(HOUSE, 2);
        CHECK.is("two, until their answers come", line.underWay(0), 2);
        line.come(TRADER, 1);
        CHECK.is("OUT answers one", line.underWay(0), 1);
        line.come(TRADER, 1);
        CHECK.is("REFUSED answers the other", line.underWay(0), 0);
        onlyAnswersEndRequests();
    }

    private static void onlyAnswersEndRequests() {
        TradeLine line = Lines.on();
        line.order(false, 5, 5);
        line.replace(0, 5, 5);
        line.come(HOUSE, 1);
        line.quote(0, false, 5, 2);
        line.correct(0, 4);
        line.bust(0);
        line.come(TRADER, 9);
        CHECK.is("ACK, FILLED, CORRECTED and BUSTED answer none", line.underWay(0), 1);
    }
}
