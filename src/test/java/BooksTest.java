/** Promises 28 to 35: what both books and logs tell. */
public final class BooksTest {
    private static final int TRADER = TradeLine.TRADER;
    private static final int HOUSE = TradeLine.HOUSE;
    private static final Check CHECK = new Check("BooksTest");

    public static void main(String[] args) {
        promise28();
        promises29To32();
        promise29BelowNothing();
        promise31();
        promise33();
        promise34();
        promise34Wrong();
        promise34Days();
        promise35();
        wrongOrders();
        CHECK.end();
    }

    private static void promise28() {
        TradeLine line = Lines.on();
        CHECK.is("orders: none", line.orders(), 0);
        for (int i = 1; i <= 40; i++) {
            line.order(true, i, i);
            CHECK.is("orders", line.orders(), i);
        }
    }

    private static String book(TradeLine line, int side, int order) {
        return line.left(side, order) + " " + line.done(side, order) + " " + line.doneByLog(side, order) + " " + line.out(side, order);
    }

    private static void promises29To32() {
        TradeLine line = Lines.on();
        line.quote(0, false, 9, 3);
        line.order(false, 9, 10);
        CHECK.same("ahead of the ORDER: house", book(line, HOUSE, 0), "-1 -1 -1 -1");
        CHECK.same("ahead of the ACK: trader", book(line, TRADER, 0), "0 0 0 0");
        line.come(HOUSE, 1);
        CHECK.same("behind the ORDER: house", book(line, HOUSE, 0), "7 3 3 0");
        line.come(TRADER, 1);
        CHECK.same("behind the ACK: trader", book(line, TRADER, 0), "10 0 0 0");
        line.come(TRADER, 1);
        CHECK.same("behind the FILLED: trader", book(line, TRADER, 0), "7 3 3 0");
        line.bust(0);
        CHECK.same("busted: house", book(line, HOUSE, 0), "7 0 0 3");
        CHECK.same("busted: trader, ahead of the BUSTED", book(line, TRADER, 0), "7 3 3 0");
        line.come(TRADER, 1);
        CHECK.same("busted: trader", book(line, TRADER, 0), "7 0 0 3");
        line.quote(1, false, 1, 1);
        line.replace(0, 9, 20);
        Lines.settle(line);
        CHECK.same("replaced: house", book(line, HOUSE, 0), "16 1 1 3");
        CHECK.same("replaced: trader", book(line, TRADER, 0), "16 1 1 3");
        line.cancel(0);
        Lines.settle(line);
        CHECK.same("out: house", book(line, HOUSE, 0), "0 1 1 19");
        CHECK.same("out: trader", book(line, TRADER, 0), "0 1 1 19");
    }

    /** REPLACED is lost by a reset, so that the trader has more done than its size. */
    private static void promise29BelowNothing() {
        TradeLine line = Lines.on();
        Lines.ordered(line, true, 9, 10);
        line.replace(0, 9, 30);
        line.come(HOUSE, 1);
        line.cut();
        line.connect(true);
        Lines.settle(line);
        line.quote(0, true, 9, 25);
        Lines.settle(line);
        CHECK.is("left below 0", line.left(TRADER, 0), -15);
        CHECK.is("is OVER", line.stateOf(0), TradeLine.OVER);
        CHECK.is("left for the house", line.left(HOUSE, 0), 5);
        CHECK.is("the request stays under way", line.underWay(0), 1);
    }

    private static void promise31() {
        TradeLine line = Lines.on();
        Lines.ordered(line, false, 9, 10);
        Lines.ordered(line, false, 8, 10);
        line.quote(0, false, 8, 14);
        CHECK.is("the first by the house's log", line.doneByLog(HOUSE, 0), 10);
        CHECK.is("the second by the house's log", line.doneByLog(HOUSE, 1), 4);
        CHECK.is("none by the trader's log", line.doneByLog(TRADER, 0), 0);
        line.cut();
        line.connect(true);
        Lines.settle(line);
        line.quote(0, false, 8, 2);
        Lines.settle(line);
        CHECK.is("lost ones are not in the trader's log", line.doneByLog(TRADER, 1), 2);
        CHECK.is("they are in the house's", line.doneByLog(HOUSE, 1), 6);
        line.bust(1);
        line.bust(2);
        CHECK.is("busted ones are left aside by the house", line.doneByLog(HOUSE, 1), 0);
        CHECK.is("by the trader when it knows", line.doneByLog(TRADER, 1), 2);
        Lines.settle(line);
        CHECK.is("then so", line.doneByLog(TRADER, 1), 0);
        CHECK.is("the trader's book: one busted that it knows", line.done(TRADER, 1) * 10 + line.out(TRADER, 1), 2);
    }

    private static void promise33() {
        TradeLine line = Lines.on();
        CHECK.refuses("venues of none", line, Check.OUT_OF_BOUNDS, () -> line.venues(0));
        line.order(false, 9, 100);
        CHECK.refuses("venues of -1", line, Check.OUT_OF_BOUNDS, () -> line.venues(-1));
        CHECK.is("the house has it not", line.venues(0), 0);
        Lines.settle(line);
        CHECK.is("none yet", line.venues(0), 0);
        line.quote(1, false, 9, 1);
        CHECK.is("one", line.venues(0), 1);
        line.quote(1, false, 9, 1);
        CHECK.is("the same again", line.venues(0), 1);
        line.quote(0, false, 9, 1);
        line.quote(2, false, 9, 1);
        CHECK.is("three", line.venues(0), 3);
        for (int i = 0; i < 4; i++) {
            line.bust(i);
        }
        CHECK.is("busted ones included", line.venues(0), 3);
        Lines.ordered(line, false, 9, 1);
        CHECK.is("of another order none", line.venues(1), 0);
    }

    private static void promise34() {
        TradeLine line = Lines.on();
        Lines.ordered(line, false, 60, 10);
        Lines.ordered(line, true, 40, 10);
        line.quote(0, false, 55, 4);
        line.quote(1, false, 50, 3);
        line.quote(2, true, 45, 2);
        CHECK.is("bought, sizes, house", line.total(HOUSE, 0, false, 0), 7);
        CHECK.is("bought, sizes times prices, house", line.total(HOUSE, 0, false, 1), 4 * 55 + 3 * 50);
        CHECK.is("sold, sizes, house", line.total(HOUSE, 0, true, 0), 2);
        CHECK.is("sold, sizes times prices, house", line.total(HOUSE, 0, true, 1), 90);
        CHECK.is("bought, trader, ahead of the reports", line.total(TRADER, 0, false, 1), 0);
        line.come(TRADER, 1);
        CHECK.is("bought, trader, behind the first", line.total(TRADER, 0, false, 1), 220);
        Lines.settle(line);
        CHECK.is("bought, trader", line.total(TRADER, 0, false, 1), 370);
        CHECK.is("sold, trader", line.total(TRADER, 0, true, 0), 2);
        line.bust(0);
        CHECK.is("busted ones are left aside, house", line.total(HOUSE, 0, false, 0), 3);
        CHECK.is("not yet, trader", line.total(TRADER, 0, false, 0), 7);
        Lines.settle(line);
        CHECK.is("then so, trader", line.total(TRADER, 0, false, 0), 3);
    }

    private static void promise34Wrong() {
        TradeLine line = Lines.on();
        line.endDay();
        CHECK.refuses("total of side 2", line, Check.OUT_OF_BOUNDS, () -> line.total(2, 0, true, 5));
        CHECK.refuses("total of side -1", line, Check.OUT_OF_BOUNDS, () -> line.total(-1, 0, true, 0));
        CHECK.refuses("total of day 2", line, Check.OUT_OF_BOUNDS, () -> line.total(0, 2, true, 9));
        CHECK.refuses("total of day -1", line, Check.OUT_OF_BOUNDS, () -> line.total(1, -1, true, 0));
        CHECK.refuses("total of what 2", line, Check.ARGUMENT, () -> line.total(0, 1, true, 2));
        CHECK.refuses("total of what -1", line, Check.ARGUMENT, () -> line.total(0, 0, true, -1));
        CHECK.is("total of the day of now", line.total(0, 1, true, 1), 0);
    }

    /** The day is that on which the execution was made, also for a trader that hears of it, or of its bust, later. */
    private static void promise34Days() {
        TradeLine line = Lines.on();
        Lines.ordered(line, false, 60, 50);
        line.quote(0, false, 10, 4);
        line.endDay();
        line.quote(0, false, 20, 5);
        line.endDay();
        Lines.settle(line);
        for (int side = 0; side < 2; side++) {
            CHECK.is("day 0", line.total(side, 0, false, 1), 40);
            CHECK.is("day 1", line.total(side, 1, false, 1), 100);
            CHECK.is("day 2", line.total(side, 2, false, 1), 0);
        }
        line.correct(0, 11);
        line.bust(1);
        Lines.settle(line);
        for (int side = 0; side < 2; side++) {
            CHECK.is("day 0, corrected on day 2", line.total(side, 0, false, 1), 44);
            CHECK.is("day 1, busted on day 2", line.total(side, 1, false, 1), 0);
        }
    }

    private static void promise35() {
        TradeLine line = Lines.on();
        line.order(false, 9, 10);
        CHECK.is("the house has it not: agree", line.agree(), true);
        line.come(HOUSE, 1);
        CHECK.is("left differs until the ACK comes", line.agree(), false);
        line.come(TRADER, 1);
        CHECK.is("agree", line.agree(), true);
        line.quote(0, false, 9, 10);
        CHECK.is("done differs", line.agree(), false);
        line.come(TRADER, 1);
        CHECK.is("agree when done", line.agree(), true);
        line.correct(0, 1);
        CHECK.is("prices do not count", line.agree(), true);
        line.bust(0);
        CHECK.is("done and out differ though left does not", line.agree(), false);
        Lines.settle(line);
        CHECK.is("agree when busted", line.agree(), true);
        lastOrderCounts();
    }

    private static void lastOrderCounts() {
        TradeLine line = Lines.on();
        for (int i = 0; i < 3; i++) {
            Lines.ordered(line, false, 9, 10);
        }
        line.cancel(2);
        line.come(HOUSE, 1);
        CHECK.is("one of three differs", line.agree(), false);
        line.come(TRADER, 1);
        CHECK.is("none differs", line.agree(), true);
    }

    private static void wrongOrders() {
        TradeLine line = Lines.on();
        line.order(false, 9, 10);
        for (int wrong : new int[] {-1, 1, 40, Integer.MIN_VALUE, Integer.MAX_VALUE}) {
            CHECK.refuses("left of order " + wrong, line, Check.OUT_OF_BOUNDS, () -> line.left(TRADER, wrong));
            CHECK.refuses("done of order " + wrong, line, Check.OUT_OF_BOUNDS, () -> line.done(HOUSE, wrong));
            CHECK.refuses("doneByLog of order " + wrong, line, Check.OUT_OF_BOUNDS, () -> line.doneByLog(TRADER, wrong));
            CHECK.refuses("out of order " + wrong, line, Check.OUT_OF_BOUNDS, () -> line.out(HOUSE, wrong));
        }
        for (int wrong : new int[] {-1, 2, Integer.MAX_VALUE}) {
            CHECK.refuses("left of side " + wrong, line, Check.OUT_OF_BOUNDS, () -> line.left(wrong, 0));
            CHECK.refuses("done of side " + wrong, line, Check.OUT_OF_BOUNDS, () -> line.done(wrong, 0));
            CHECK.refuses("doneByLog of side " + wrong, line, Check.OUT_OF_BOUNDS, () -> line.doneByLog(wrong, 0));
            CHECK.refuses("out of side " + wrong, line, Check.OUT_OF_BOUNDS, () -> line.out(wrong, 0));
        }
    }
}
