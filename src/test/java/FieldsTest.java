/** Promises 13 to 15: the fields of messages that are kept. */
public final class FieldsTest {
    private static final int TRADER = TradeLine.TRADER;
    private static final int HOUSE = TradeLine.HOUSE;
    private static final Check CHECK = new Check("FieldsTest");

    public static void main(String[] args) {
        promise13();
        promise14();
        promise15();
        sessionMessages();
        requests();
        plainReports();
        reportsOfExecutions();
        sums();
        keptAsTheyWere();
        CHECK.end();
    }

    private static void promise13() {
        TradeLine line = Lines.on();
        CHECK.is("fields of a LOGON", line.fields(HOUSE, 1), 3);
        line.order(true, 100, 100);
        CHECK.is("fields of an ORDER", line.fields(TRADER, 2), 7);
        CHECK.refuses("fields of side 2", line, Check.OUT_OF_BOUNDS, () -> line.fields(2, 1));
        CHECK.refuses("fields of side -1", line, Check.OUT_OF_BOUNDS, () -> line.fields(-1, 1));
        CHECK.refuses("fields of message 0", line, Check.OUT_OF_BOUNDS, () -> line.fields(TRADER, 0));
        CHECK.refuses("fields of message 3", line, Check.OUT_OF_BOUNDS, () -> line.fields(TRADER, 3));
        CHECK.refuses("fields of message 2 of the house", line, Check.OUT_OF_BOUNDS, () -> line.fields(HOUSE, 2));
        CHECK.refuses("fields of the least number", line, Check.OUT_OF_BOUNDS, () -> line.fields(HOUSE, Integer.MIN_VALUE));
        CHECK.refuses("fields of the greatest number", line, Check.OUT_OF_BOUNDS, () -> line.fields(HOUSE, Integer.MAX_VALUE));
    }

    private static void promise14() {
        TradeLine line = Lines.on();
        line.order(true, 7, 8);
        CHECK.is("tagAt the first", line.tagAt(TRADER, 2, 0), 35);
        CHECK.is("tagAt the last", line.tagAt(TRADER, 2, 6), 10);
        CHECK.refuses("tagAt side 2", line, Check.OUT_OF_BOUNDS, () -> line.tagAt(2, 1, 0));
        CHECK.refuses("tagAt message 3", line, Check.OUT_OF_BOUNDS, () -> line.tagAt(TRADER, 3, 0));
        CHECK.refuses("tagAt message 0", line, Check.OUT_OF_BOUNDS, () -> line.tagAt(TRADER, 0, 0));
        CHECK.refuses("tagAt place -1", line, Check.OUT_OF_BOUNDS, () -> line.tagAt(TRADER, 2, -1));
        CHECK.refuses("tagAt place 7", line, Check.OUT_OF_BOUNDS, () -> line.tagAt(TRADER, 2, 7));
        CHECK.refuses("tagAt a place that doubles to 0", line, Check.OUT_OF_BOUNDS, () -> line.tagAt(TRADER, 2, Integer.MIN_VALUE));
    }

    private static void promise15() {
        TradeLine line = Lines.on();
        line.order(true, 7, 8);
        CHECK.is("valueAt the first", line.valueAt(TRADER, 2, 0), TradeLine.ORDER);
        CHECK.is("valueAt the last", line.valueAt(TRADER, 2, 6), 35 + 5 + 34 + 2 + 11 + 54 + 1 + 44 + 7 + 38 + 8);
        CHECK.refuses("valueAt side -1", line, Check.OUT_OF_BOUNDS, () -> line.valueAt(-1, 1, 0));
        CHECK.refuses("valueAt message 3", line, Check.OUT_OF_BOUNDS, () -> line.valueAt(TRADER, 3, 0));
        CHECK.refuses("valueAt message 0", line, Check.OUT_OF_BOUNDS, () -> line.valueAt(TRADER, 0, 0));
        CHECK.refuses("valueAt place -1", line, Check.OUT_OF_BOUNDS, () -> line.valueAt(TRADER, 2, -1));
        CHECK.refuses("valueAt place 7", line, Check.OUT_OF_BOUNDS, () -> line.valueAt(TRADER, 2, 7));
        CHECK.refuses("valueAt the greatest place", line, Check.OUT_OF_BOUNDS, () -> line.valueAt(TRADER, 2, Integer.MAX_VALUE));
    }

    private static void sessionMessages() {
        TradeLine line = Lines.on();
        line.pass(15);
        CHECK.same("BEAT", Lines.body(line, TRADER, 2), "35=1 34=2");
        CHECK.same("TEST", Lines.body(line, TRADER, 3), "35=2 34=3");
        line.garble(HOUSE, 0);
        line.come(HOUSE, 2);
        CHECK.same("RESEND", Lines.body(line, HOUSE, 4), "35=3 34=4 7=2");
    }

    private static void requests() {
        TradeLine line = Lines.on();
        line.order(false, 10, 20);
        line.order(true, 30, 40);
        line.replace(1, 50, 60);
        line.cancel(0);
        CHECK.same("ORDER to buy", Lines.body(line, TRADER, 2), "35=5 34=2 11=0 54=0 44=10 38=20");
        CHECK.same("ORDER to sell", Lines.body(line, TRADER, 3), "35=5 34=3 11=1 54=1 44=30 38=40");
        CHECK.same("REPLACE", Lines.body(line, TRADER, 4), "35=7 34=4 41=1 44=50 38=60");
        CHECK.same("CANCEL", Lines.body(line, TRADER, 5), "35=6 34=5 41=0");
    }

    private static void plainReports() {
        TradeLine line = Lines.on();
        Lines.ordered(line, false, 10, 20);
        CHECK.same("ACK", Lines.body(line, HOUSE, 2), "35=8 34=2 150=0 37=0");
        line.replace(0, 11, 21);
        line.cancel(0);
        line.cancel(0);
        Lines.settle(line);
        CHECK.same("REPLACED", Lines.body(line, HOUSE, 3), "35=8 34=3 150=3 37=0 44=11 38=21");
        CHECK.same("OUT", Lines.body(line, HOUSE, 4), "35=8 34=4 150=2 37=0 32=21");
        CHECK.same("REFUSED", Lines.body(line, HOUSE, 5), "35=8 34=5 150=4 37=0");
    }

    private static void reportsOfExecutions() {
        TradeLine line = Lines.on();
        Lines.ordered(line, true, 90, 1);
        Lines.ordered(line, false, 60, 30);
        line.quote(2, false, 50, 8);
        CHECK.same("FILLED by one", Lines.body(line, HOUSE, 4), "35=8 34=4 150=1 37=1 382=1 17=0 30=2 31=50 32=8");
        line.quote(1, false, 62, 5);
        line.quote(2, false, 63, 6);
        line.replace(1, 63, 19);
        Lines.settle(line);
        CHECK.same("REPLACED ahead", Lines.body(line, HOUSE, 5), "35=8 34=5 150=3 37=1 44=63 38=19");
        CHECK.same("FILLED by two", Lines.body(line, HOUSE, 6), "35=8 34=6 150=1 37=1 382=2 17=1 30=1 31=62 32=5 17=2 30=2 31=63 32=6");
        line.bust(1);
        CHECK.same("BUSTED", Lines.body(line, HOUSE, 7), "35=8 34=7 150=5 37=1 17=1");
        line.correct(2, 64);
        CHECK.same("CORRECTED", Lines.body(line, HOUSE, 8), "35=8 34=8 150=6 37=1 17=2 31=64");
    }

    /** Every sum is that of all ahead of it, modulo 256; a FILLED's is above 256 and is cut. */
    private static void sums() {
        TradeLine line = Lines.on();
        Lines.ordered(line, false, 100, 100);
        line.quote(0, false, 100, 100);
        int greatest = 0;
        for (int side = 0; side < 2; side++) {
            for (int number = 1; number <= line.sent(side); number++) {
                int last = line.fields(side, number) - 1;
                int sum = 0;
                for (int place = 0; place < last; place++) {
                    sum += line.tagAt(side, number, place) + line.valueAt(side, number, place);
                }
                greatest = Math.max(greatest, sum);
                CHECK.is("the sum's tag", line.tagAt(side, number, last), 10);
                CHECK.is("the sum", line.valueAt(side, number, last), sum % 256);
            }
        }
        CHECK.is("one sum was cut", greatest > 256, true);
    }

    private static void keptAsTheyWere() {
        TradeLine line = Lines.on();
        Lines.ordered(line, false, 9, 9);
        line.quote(0, false, 9, 9);
        String filled = Lines.message(line, HOUSE, 3);
        line.correct(0, 50);
        line.bust(0);
        CHECK.same("a FILLED stays what it was sent as", Lines.message(line, HOUSE, 3), filled);
        line.garble(TRADER, 0);
        line.come(TRADER, 3);
        line.come(HOUSE, 9);
        CHECK.same("going again changes no field", Lines.message(line, HOUSE, 3), filled);
        CHECK.is("and is not kept anew", line.sent(HOUSE), 5);
        Lines.settle(line);
        CHECK.is("what goes again tells what it told", line.total(TRADER, 0, false, 1), 0);
    }
}
