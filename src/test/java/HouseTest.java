/** Promises 22 to 27: quotes, routing, executions, days. */
public final class HouseTest {
    private static final int TRADER = TradeLine.TRADER;
    private static final int HOUSE = TradeLine.HOUSE;
    private static final Check CHECK = new Check("HouseTest");

    public static void main(String[] args) {
        promise22();
        promise22Wrong();
        promise22PriceLimits();
        promise22BestQuote();
        promise22Ranks(false);
        promise22Ranks(true);
        promise22RankOfReplaced();
        promise22HundredExecutions();
        promise23();
        promise24();
        promise24Left();
        promise25();
        promise25Unknown();
        promise26();
        promise27();
        CHECK.end();
    }

    private static void promise22() {
        TradeLine line = Lines.on();
        CHECK.is("quote without orders", line.quote(0, false, 50, 10), 0);
        Lines.ordered(line, false, 50, 4);
        CHECK.is("an order is routed when it comes", line.done(HOUSE, 0), 4);
        CHECK.is("the quote is less by it", line.quoted(0, false), 6);
        CHECK.is("a quote stands in place of the one before", line.quote(0, false, 51, 3), 0);
        CHECK.is("its size too", line.quoted(0, false), 3);
        Lines.ordered(line, false, 50, 4);
        CHECK.is("the new price counts", line.done(HOUSE, 1), 0);
        CHECK.is("one execution", line.quote(1, false, 50, 3), 1);
        CHECK.is("size 0: none", line.quote(1, false, 50, 0), 0);
        CHECK.is("sells apart", line.quote(1, true, 50, 10), 0);
        CHECK.is("left", line.left(HOUSE, 1), 1);
        line.cut();
        CHECK.is("when down executions are made too", line.quote(2, false, 1, 200), 1);
        CHECK.is("and reported, for later", line.sent(HOUSE), 6);
        line.connect(false);
        Lines.settle(line);
        CHECK.is("later", line.done(TRADER, 1), 4);
    }

    private static void promise22Wrong() {
        TradeLine line = Lines.on();
        line.quote(0, true, 50, 10);
        CHECK.refuses("venue 3", line, Check.OUT_OF_BOUNDS, () -> line.quote(3, false, 0, -1));
        CHECK.refuses("venue -1", line, Check.OUT_OF_BOUNDS, () -> line.quote(-1, true, 1, 1));
        for (int wrong : new int[] {0, 101, -5, Integer.MAX_VALUE}) {
            CHECK.refuses("price " + wrong, line, Check.ARGUMENT, () -> line.quote(0, true, wrong, 1));
        }
        for (int wrong : new int[] {-1, 201, Integer.MIN_VALUE}) {
            CHECK.refuses("size " + wrong, line, Check.ARGUMENT, () -> line.quote(0, true, 50, wrong));
        }
        CHECK.is("the least and greatest", line.quote(2, true, 1, 0) + line.quote(2, true, 100, 200), 0);
    }

    private static void promise22PriceLimits() {
        TradeLine line = Lines.on();
        Lines.ordered(line, false, 50, 10);
        Lines.ordered(line, true, 50, 10);
        CHECK.is("buy at 50: not at 51", line.quote(0, false, 51, 1), 0);
        CHECK.is("buy at 50: at 50", line.quote(0, false, 50, 1), 1);
        CHECK.is("buy at 50: at 49", line.quote(0, false, 49, 1), 1);
        CHECK.is("sell at 50: not at 49", line.quote(0, true, 49, 1), 0);
        CHECK.is("sell at 50: at 50", line.quote(0, true, 50, 1), 1);
        CHECK.is("sell at 50: at 51", line.quote(0, true, 51, 1), 1);
        CHECK.is("at the price of the quote", line.total(HOUSE, 0, false, 1) * 1000 + line.total(HOUSE, 0, true, 1), 99101);
    }

    /** One order against three quotes: price first, then size, then the lowest venue. */
    private static void promise22BestQuote() {
        CHECK.same("the lowest price to buy", filledOf(false, 40, 9, 39, 1, 41, 9, 10), "1:39:1 0:40:9");
        CHECK.same("the highest price to sell", filledOf(true, 40, 9, 41, 1, 39, 9, 10), "1:41:1 0:40:9");
        CHECK.same("the greatest size of one price", filledOf(false, 40, 3, 40, 5, 40, 4, 6), "1:40:5 2:40:1");
        CHECK.same("the greatest size of one price to sell", filledOf(true, 40, 3, 40, 5, 40, 6, 7), "2:40:6 1:40:1");
        CHECK.same("the lowest venue of one price and size", filledOf(false, 40, 3, 40, 3, 40, 3, 7), "0:40:3 1:40:3 2:40:1");
        CHECK.same("the lowest venue of two", filledOf(true, 40, 2, 40, 3, 40, 3, 4), "1:40:3 2:40:1");
        CHECK.same("size 0 does not trade", filledOf(false, 1, 0, 2, 0, 3, 1, 7), "2:3:1");
    }

    /** The executions of an order at price 40, as venue:price:size, against quotes of price and size each. */
    private static String filledOf(boolean sells, int price0, int size0, int price1, int size1, int price2, int size2, int size) {
        TradeLine line = Lines.on();
        line.quote(0, sells, price0, size0);
        line.quote(1, sells, price1, size1);
        line.quote(2, sells, price2, size2);
        line.order(sells, 40, size);
        line.come(HOUSE, 1);
        StringBuilder all = new StringBuilder();
        int filled = line.sent(HOUSE);
        for (int place = 5; place + 3 < line.fields(HOUSE, filled); place += 4) {
            all.append(all.length() == 0 ? "" : " ");
            for (int i = 1; i < 4; i++) {
                all.append(i == 1 ? "" : ":").append(line.valueAt(HOUSE, filled, place + i));
            }
        }
        return all.toString();
    }

    private static void promise22Ranks(boolean sells) {
        TradeLine line = Lines.on();
        int worse = sells ? 60 : 40;
        int better = sells ? 40 : 60;
        Lines.ordered(line, sells, worse, 5);
        Lines.ordered(line, sells, 50, 5);
        Lines.ordered(line, sells, better, 5);
        Lines.ordered(line, sells, 50, 5);
        Lines.ordered(line, !sells, better, 5);
        CHECK.is("one quote for all", line.quote(0, sells, sells ? 60 : 40, 13), 3);
        CHECK.is("the best price first", line.left(HOUSE, 2), 0);
        CHECK.is("then the one that came first", line.left(HOUSE, 1), 0);
        CHECK.is("then the other", line.left(HOUSE, 3), 2);
        CHECK.is("the worst price goes empty", line.left(HOUSE, 0), 5);
        CHECK.is("the other direction too", line.left(HOUSE, 4), 5);
        CHECK.same("one FILLED for each order, by rank", Lines.last(line, HOUSE),
            "35=8 150=1 37=3 382=1 17=2 30=0 31=" + (sells ? 60 : 40) + " 32=3");
    }

    private static void promise22RankOfReplaced() {
        TradeLine line = Lines.on();
        for (int i = 0; i < 3; i++) {
            Lines.ordered(line, false, 50, 5);
        }
        line.replace(0, 50, 6);
        Lines.settle(line);
        line.quote(0, false, 50, 5);
        CHECK.is("replaced at the same price: behind the others", line.left(HOUSE, 0) * 100 + line.left(HOUSE, 1) * 10 + line.left(HOUSE, 2), 605);
        line.replace(2, 51, 5);
        Lines.settle(line);
        line.replace(2, 50, 5);
        Lines.settle(line);
        line.quote(0, false, 50, 6);
        CHECK.is("away and back: behind the others", line.left(HOUSE, 0) * 10 + line.left(HOUSE, 2), 5);
        TradeLine two = Lines.on();
        Lines.ordered(two, true, 50, 5);
        Lines.ordered(two, true, 40, 5);
        two.replace(0, 40, 5);
        Lines.settle(two);
        two.quote(0, true, 45, 6);
        CHECK.is("came first, replaced last", two.left(HOUSE, 0) * 10 + two.left(HOUSE, 1), 40);
        two.replace(0, 39, 5);
        Lines.settle(two);
        CHECK.is("a better price is routed at once, there is no quote", two.left(HOUSE, 0), 4);
    }

    private static void promise22HundredExecutions() {
        TradeLine line = Lines.on();
        Lines.ordered(line, false, 50, 99);
        Lines.ordered(line, false, 50, 10);
        for (int i = 0; i < 98; i++) {
            line.quote(0, false, 50, 1);
        }
        CHECK.is("98 executions, 1 and 10 left", line.executions() * 1000 + line.left(HOUSE, 0) * 100 + line.left(HOUSE, 1), 98110);
        line.quote(1, false, 100, 50);
        CHECK.is("the last two, of two orders", line.quote(0, false, 50, 8), 2);
        CHECK.is("100 executions", line.executions(), 100);
        CHECK.is("the second has 3 left", line.left(HOUSE, 1), 3);
        int sent = line.sent(HOUSE);
        CHECK.is("no more", line.quote(0, false, 50, 8), 0);
        CHECK.is("nothing is reported", line.sent(HOUSE), sent);
        CHECK.is("the quote stands", line.quoted(0, false), 8);
        line.come(TRADER, 100);
        line.come(TRADER, 100);
        Lines.ordered(line, false, 60, 1);
        CHECK.is("a new order is acknowledged and not routed", line.stateOf(2) * 10 + line.left(HOUSE, 2), 11);
        line.bust(99);
        CHECK.is("busted ones count", line.quote(0, false, 50, 8), 0);
        stopsAtAHundred();
    }

    /** The hundredth execution is the first of two that the routing would make. */
    private static void stopsAtAHundred() {
        TradeLine line = Lines.on();
        Lines.ordered(line, true, 50, 100);
        for (int i = 0; i < 99; i++) {
            line.quote(0, true, 50, 1);
        }
        line.quote(0, true, 50, 0);
        line.order(true, 60, 9);
        line.quote(1, true, 49, 9);
        line.quote(2, true, 48, 9);
        line.come(HOUSE, 1);
        line.replace(1, 40, 10);
        line.come(HOUSE, 9);
        CHECK.is("routed no further", line.executions() * 100 + line.left(HOUSE, 1), 10001);
        CHECK.is("the second quote is whole", line.quoted(1, true) * 10 + line.quoted(2, true), 9);
    }

    private static void promise23() {
        TradeLine line = Lines.on();
        CHECK.refuses("quoted of venue 3", line, Check.OUT_OF_BOUNDS, () -> line.quoted(3, false));
        CHECK.refuses("quoted of venue -1", line, Check.OUT_OF_BOUNDS, () -> line.quoted(-1, true));
        line.quote(2, true, 10, 200);
        CHECK.is("quoted", line.quoted(2, true), 200);
        CHECK.is("quoted for the others", line.quoted(2, false) + line.quoted(1, true), 0);
        Lines.ordered(line, true, 9, 50);
        CHECK.is("what is left of it", line.quoted(2, true), 150);
    }

    private static void promise24() {
        TradeLine line = Lines.on();
        CHECK.refuses("bust none", line, Check.OUT_OF_BOUNDS, () -> line.bust(0));
        line.quote(0, false, 10, 5);
        line.quote(1, false, 11, 6);
        Lines.ordered(line, false, 20, 20);
        CHECK.refuses("bust behind the last", line, Check.OUT_OF_BOUNDS, () -> line.bust(2));
        CHECK.refuses("bust -1", line, Check.OUT_OF_BOUNDS, () -> line.bust(-1));
        CHECK.is("bust: what is done then", line.bust(1), 5);
        CHECK.refuses("bust again", line, Check.STATE, () -> line.bust(1));
        CHECK.refuses("correct a busted one", line, Check.STATE, () -> line.correct(1, 5));
        CHECK.refuses("correct a busted one, wrong price", line, Check.ARGUMENT, () -> line.correct(1, 0));
        CHECK.is("out for the house", line.out(HOUSE, 0), 6);
        CHECK.is("not yet for the trader", line.out(TRADER, 0), 0);
        CHECK.is("the quote is not told anew", line.quoted(1, false), 0);
        line.come(TRADER, 1);
        CHECK.is("then for the trader too", line.out(TRADER, 0) * 100 + line.done(TRADER, 0), 605);
        CHECK.is("agree", line.agree(), true);
        CHECK.is("bust the other", line.bust(0), 0);
    }

    private static void promise24Left() {
        TradeLine line = Lines.on();
        line.quote(0, false, 10, 5);
        Lines.ordered(line, false, 20, 5);
        line.bust(0);
        CHECK.is("what was done is out, nothing is left", line.left(HOUSE, 0), 0);
        CHECK.is("so that it trades no more", line.quote(0, false, 10, 5), 0);
        Lines.settle(line);
        line.cut();
        line.connect(true);
        Lines.settle(line);
        TradeLine lost = Lines.on();
        lost.order(false, 20, 8);
        lost.come(HOUSE, 1);
        lost.come(TRADER, 1);
        lost.quote(0, false, 10, 5);
        lost.cut();
        lost.connect(true);
        Lines.settle(lost);
        lost.bust(0);
        Lines.settle(lost);
        CHECK.is("an execution that the trader does not know is not busted for it", lost.out(TRADER, 0) * 10 + lost.done(TRADER, 0), 0);
        CHECK.is("the trader has it LIVE", lost.stateOf(0) * 10 + lost.left(TRADER, 0), 18);
        CHECK.is("the house has 3 left", lost.left(HOUSE, 0), 3);
    }

    private static void promise25() {
        TradeLine line = Lines.on();
        CHECK.refuses("correct none", line, Check.OUT_OF_BOUNDS, () -> line.correct(0, 0));
        line.quote(0, true, 50, 5);
        Lines.ordered(line, true, 40, 20);
        CHECK.refuses("correct behind the last", line, Check.OUT_OF_BOUNDS, () -> line.correct(1, 1));
        CHECK.refuses("correct -1", line, Check.OUT_OF_BOUNDS, () -> line.correct(-1, 1));
        for (int wrong : new int[] {0, 101, -9}) {
            CHECK.refuses("price " + wrong, line, Check.ARGUMENT, () -> line.correct(0, wrong));
        }
        CHECK.is("correct: the price before", line.correct(0, 1), 50);
        CHECK.is("correct once more", line.correct(0, 100), 1);
        CHECK.is("the same price", line.correct(0, 100), 100);
        CHECK.is("each is reported", line.sent(HOUSE), 6);
        CHECK.is("the house's total", line.total(HOUSE, 0, true, 1), 500);
        CHECK.is("the trader's total before", line.total(TRADER, 0, true, 1), 250);
        line.come(TRADER, 1);
        CHECK.is("the trader's total by the first", line.total(TRADER, 0, true, 1), 5);
        line.come(TRADER, 2);
        CHECK.is("the trader's total", line.total(TRADER, 0, true, 1), 500);
        CHECK.is("sizes stay", line.total(TRADER, 0, true, 0), 5);
    }

    private static void promise25Unknown() {
        TradeLine line = Lines.on();
        Lines.ordered(line, false, 20, 8);
        line.quote(0, false, 10, 5);
        line.cut();
        line.connect(true);
        Lines.settle(line);
        line.correct(0, 12);
        Lines.settle(line);
        CHECK.is("one that the trader does not know stays unknown", line.total(TRADER, 0, false, 1) + line.doneByLog(TRADER, 0), 0);
    }

    private static void promise26() {
        TradeLine line = Lines.on();
        CHECK.is("none", line.executions(), 0);
        line.quote(0, true, 50, 5);
        line.quote(1, true, 50, 5);
        Lines.ordered(line, true, 40, 20);
        CHECK.is("two", line.executions(), 2);
        line.bust(0);
        CHECK.is("busted ones included", line.executions(), 2);
    }

    private static void promise27() {
        TradeLine line = new TradeLine();
        CHECK.is("the first day ends", line.endDay(), 1);
        CHECK.is("the second", line.endDay(), 2);
        line.connect(true);
        CHECK.is("days go on behind a reset", line.endDay(), 3);
        CHECK.is("a day ends without a message", line.sent(TRADER) + line.sent(HOUSE), 2);
    }
}
