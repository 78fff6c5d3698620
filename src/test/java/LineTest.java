/** Promises 1 to 12: the line, the two sides, gaps, ticks. */
public final class LineTest {
    private static final int TRADER = TradeLine.TRADER;
    private static final int HOUSE = TradeLine.HOUSE;
    private static final Check CHECK = new Check("LineTest");

    public static void main(String[] args) {
        promise1();
        promise2();
        promise2WithReset();
        promise3();
        promise4();
        promise4Lost();
        promise4Gap();
        promise4AsksAgain();
        promise4FillOfMany();
        promise4FillBelow();
        promise4FillThrowsHeldAway();
        promise4ResendHeldIsAnsweredOnce();
        promise4Stale();
        promise4WentAgain();
        promise4Test();
        promise5();
        promise5OfOne();
        promise6();
        promise6Beats();
        promise6Quiet();
        promise6BothDown();
        promise6SendingAgainCounts();
        promise7();
        promise8();
        promise9();
        promise10();
        promise11();
        promise12();
        CHECK.end();
    }

    private static void promise1() {
        TradeLine line = new TradeLine();
        CHECK.is("new: isUp", line.isUp(), false);
        CHECK.is("new: orders", line.orders(), 0);
        CHECK.is("new: executions", line.executions(), 0);
        CHECK.is("new: agree", line.agree(), true);
        for (int side = 0; side < 2; side++) {
            CHECK.is("new: isOn", line.isOn(side), false);
            CHECK.is("new: onWay", line.onWay(side), 0);
            CHECK.is("new: sent", line.sent(side), 0);
            CHECK.is("new: expected", line.expected(side), 1);
            CHECK.is("new: held", line.held(side), 0);
            CHECK.is("new: total", line.total(side, 0, true, 1), 0);
        }
        for (int venue = 0; venue < 3; venue++) {
            CHECK.is("new: quoted to buy", line.quoted(venue, false), 0);
            CHECK.is("new: quoted to sell", line.quoted(venue, true), 0);
        }
        TradeLine other = Lines.on();
        other.order(true, 3, 3);
        CHECK.is("new: nothing is shared with another object", line.orders() + line.sent(0), 0);
    }

    private static void promise2() {
        TradeLine line = new TradeLine();
        line.connect(false);
        CHECK.is("connect: isUp", line.isUp(), true);
        CHECK.is("connect: nobody is on", line.isOn(TRADER) || line.isOn(HOUSE), false);
        CHECK.is("connect: a LOGON to the house", line.onWay(HOUSE), 1);
        CHECK.is("connect: a LOGON to the trader", line.onWay(TRADER), 1);
        CHECK.same("connect: LOGON", Lines.message(line, TRADER, 1), "35=0 34=1 10=70");
        CHECK.same("connect: LOGON", Lines.message(line, HOUSE, 1), "35=0 34=1 10=70");
        CHECK.refuses("connect when up", line, Check.STATE, () -> connected(line, false));
        CHECK.refuses("connect with a reset when up", line, Check.STATE, () -> connected(line, true));
        Lines.settle(line);
        line.cut();
        line.connect(false);
        CHECK.is("connect again: numbers go on", line.sent(TRADER), 2);
        CHECK.is("connect again: expects on", line.expected(HOUSE), 2);
        CHECK.is("connect again: off until the LOGON comes", line.isOn(HOUSE), false);
    }

    private static int connected(TradeLine line, boolean resets) {
        line.connect(resets);
        return 0;
    }

    private static void promise2WithReset() {
        TradeLine line = Lines.on();
        line.quote(1, false, 20, 7);
        Lines.ordered(line, false, 20, 5);
        Lines.ordered(line, false, 10, 5);
        line.cancel(1);
        line.pass(3);
        line.endDay();
        line.cut();
        line.connect(true);
        for (int side = 0; side < 2; side++) {
            CHECK.is("reset: sent", line.sent(side), 1);
            CHECK.is("reset: expected", line.expected(side), 1);
            int one = side;
            CHECK.refuses("reset: the second message is forgotten", line, Check.OUT_OF_BOUNDS, () -> line.fields(one, 2));
        }
        CHECK.is("reset: orders stay", line.orders(), 2);
        CHECK.is("reset: requests stay", line.underWay(1), 1);
        CHECK.is("reset: quotes stay", line.quoted(1, false), 2);
        CHECK.is("reset: executions stay", line.executions(), 1);
        CHECK.is("reset: books stay", line.done(TRADER, 0) * 10 + line.left(HOUSE, 1), 55);
        CHECK.is("reset: days stay", line.endDay(), 2);
        Lines.settle(line);
        CHECK.is("reset: the forgotten CANCEL never comes", line.left(HOUSE, 1), 5);
        CHECK.is("reset: its request stays under way", line.underWay(1), 1);
        line.cancel(1);
        Lines.settle(line);
        CHECK.is("reset: one OUT answers one of two", line.underWay(1), 1);
    }

    private static void promise3() {
        TradeLine line = new TradeLine();
        CHECK.refuses("cut when down", line, Check.STATE, line::cut);
        line.connect(false);
        line.come(HOUSE, 1);
        CHECK.is("cut with one on its way", line.cut(), 1);
        CHECK.is("cut: down", line.isUp(), false);
        CHECK.is("cut: off", line.isOn(HOUSE), false);
        CHECK.is("cut: nothing on its way", line.onWay(TRADER) + line.onWay(HOUSE), 0);
        CHECK.refuses("cut twice", line, Check.STATE, line::cut);
        TradeLine two = Lines.on();
        CHECK.is("cut with none on its way", two.cut(), 0);
        TradeLine three = new TradeLine();
        three.connect(true);
        CHECK.is("cut counts both ways", three.cut(), 2);
    }

    private static void promise4() {
        TradeLine line = new TradeLine();
        CHECK.is("come when down", line.come(TRADER, 100), 0);
        CHECK.refuses("come to side 2", line, Check.OUT_OF_BOUNDS, () -> line.come(2, 0));
        CHECK.refuses("come to side -1", line, Check.OUT_OF_BOUNDS, () -> line.come(-1, 1));
        CHECK.refuses("come 0", line, Check.ARGUMENT, () -> line.come(0, 0));
        CHECK.refuses("come 101", line, Check.ARGUMENT, () -> line.come(1, 101));
        CHECK.refuses("come least of all", line, Check.ARGUMENT, () -> line.come(1, Integer.MIN_VALUE));
        line.connect(false);
        line.come(TRADER, 1);
        line.order(false, 1, 1);
        line.order(false, 1, 1);
        CHECK.is("come 2 of 3", line.come(HOUSE, 2), 2);
        CHECK.is("come 2 of 3: one order came", line.left(HOUSE, 0), 1);
        CHECK.is("come 2 of 3: the other did not", line.left(HOUSE, 1), -1);
        CHECK.is("come the rest", line.come(HOUSE, 100), 1);
        CHECK.is("come none", line.come(HOUSE, 1), 0);
    }

    private static void promise4Lost() {
        TradeLine line = new TradeLine();
        line.connect(false);
        line.come(TRADER, 1);
        line.order(false, 1, 1);
        line.garble(HOUSE, 0);
        CHECK.is("lost ones come too", line.come(HOUSE, 2), 2);
        CHECK.is("a garbled LOGON makes nobody on", line.isOn(HOUSE), false);
        CHECK.is("what comes to a side that is not on is lost", line.expected(HOUSE) + line.held(HOUSE), 1);
        CHECK.is("and nothing is asked for", line.sent(HOUSE), 1);
    }

    private static void promise4Gap() {
        TradeLine line = Lines.on();
        for (int i = 0; i < 4; i++) {
            line.order(false, 1, 1 + i);
        }
        line.garble(HOUSE, 0);
        line.come(HOUSE, 1);
        CHECK.is("garbled: expected stays", line.expected(HOUSE), 2);
        line.come(HOUSE, 1);
        CHECK.is("gap: held back", line.held(HOUSE), 1);
        CHECK.same("gap: asked for", Lines.body(line, HOUSE, 2), "35=3 34=2 7=2");
        line.come(HOUSE, 2);
        CHECK.is("gap: all held back", line.held(HOUSE), 3);
        CHECK.is("gap: asked for once", line.sent(HOUSE), 2);
        CHECK.is("gap: not worked off", line.left(HOUSE, 1), -1);
        line.come(TRADER, 1);
        CHECK.is("answer: all from the first on go again", line.onWay(HOUSE), 4);
        CHECK.is("answer: they are not kept anew", line.sent(TRADER), 5);
        line.come(HOUSE, 1);
        CHECK.is("answer: the first lets all held back be worked off", line.expected(HOUSE), 6);
        CHECK.is("answer: none is held back", line.held(HOUSE), 0);
        CHECK.is("answer: in turn", line.left(HOUSE, 3), 4);
        CHECK.is("answer: four ACKs behind the RESEND", line.sent(HOUSE), 6);
        line.come(HOUSE, 3);
        CHECK.is("less than expected: nothing more happens", line.sent(HOUSE) * 10 + line.expected(HOUSE), 66);
    }

    private static void promise4AsksAgain() {
        TradeLine line = Lines.on();
        for (int i = 0; i < 6; i++) {
            line.order(false, 1, 1);
        }
        line.garble(HOUSE, 0);
        line.come(HOUSE, 2);
        CHECK.is("asks at once", line.sent(HOUSE), 2);
        line.pass(4);
        line.come(HOUSE, 1);
        CHECK.is("does not ask again 4 ticks later", line.sent(HOUSE), 2);
        line.pass(1);
        line.come(HOUSE, 1);
        CHECK.is("asks again 5 ticks later", line.sent(HOUSE), 3);
        line.come(HOUSE, 1);
        CHECK.is("and not once more", line.sent(HOUSE), 3);
        line.cut();
        line.connect(false);
        line.come(HOUSE, 1);
        CHECK.is("forgets what it asked for when the line goes down", line.sent(HOUSE), 5);
        CHECK.is("forgets what it held back", line.held(HOUSE), 1);
        CHECK.same("a LOGON behind a gap makes the side on, and it asks", line.isOn(HOUSE) + " " + Lines.body(line, HOUSE, 5), "true 35=3 34=5 7=2");
    }

    private static void promise4FillOfMany() {
        TradeLine line = Lines.on();
        line.pass(10);
        line.come(TRADER, 9);
        line.pass(10);
        line.come(TRADER, 9);
        int order = line.order(true, 9, 9);
        line.garble(HOUSE, 0);
        line.come(HOUSE, 9);
        CHECK.is("of three BEATs one is lost: two and the ORDER are held back", line.held(HOUSE), 3);
        line.come(TRADER, 9);
        CHECK.is("three BEATs are one FILL, and the ORDER goes again", line.onWay(HOUSE), 2);
        CHECK.is("the FILL bears the number of the first", line.garble(HOUSE, 0), 2);
        CHECK.is("the ORDER its own", line.garble(HOUSE, 1), 5);
        line.pass(5);
        line.cancel(order);
        line.come(HOUSE, 9);
        CHECK.is("both are garbled, the CANCEL is held back", line.held(HOUSE), 4);
        line.come(TRADER, 9);
        CHECK.is("FILL, ORDER and CANCEL", line.onWay(HOUSE), 3);
        line.come(HOUSE, 1);
        CHECK.is("the FILL's next number is that of the ORDER, which was held back", line.expected(HOUSE), 7);
        CHECK.is("all is worked off", line.out(HOUSE, order), 9);
    }

    private static void promise4FillBelow() {
        TradeLine line = Lines.on();
        line.pass(10);
        line.come(TRADER, 9);
        line.order(false, 1, 1);
        line.garble(HOUSE, 0);
        line.come(HOUSE, 2);
        line.pass(5);
        line.order(false, 1, 1);
        line.come(HOUSE, 1);
        line.come(TRADER, 9);
        CHECK.is("both RESENDs are answered: FILL and two ORDERs each", line.onWay(HOUSE), 6);
        line.come(HOUSE, 6);
        CHECK.is("of a FILL below the expected number nothing happens", line.expected(HOUSE), 5);
        CHECK.is("two orders are there", line.left(HOUSE, 0) + line.left(HOUSE, 1), 2);
    }

    private static void promise4FillThrowsHeldAway() {
        TradeLine line = Lines.on();
        line.pass(10);
        line.come(TRADER, 9);
        line.garble(HOUSE, 0);
        line.order(false, 1, 1);
        line.order(false, 2, 2);
        line.come(HOUSE, 3);
        CHECK.is("two ORDERs are held back", line.held(HOUSE), 2);
        line.pass(21);
        line.come(TRADER, 1);
        CHECK.same("a RESEND came, 21 ticks late", "" + line.isLeftOut(0) + line.isLeftOut(1), "truetrue");
        line.come(HOUSE, 100);
        CHECK.is("the FILL behind the ORDERs throws them away", line.held(HOUSE), 0);
        CHECK.is("they never come", line.left(HOUSE, 0) + line.left(HOUSE, 1), -2);
        CHECK.is("expected is behind all", line.expected(HOUSE), line.sent(TRADER) + 1);
    }

    private static void promise4ResendHeldIsAnsweredOnce() {
        TradeLine line = Lines.on();
        line.order(false, 1, 1);
        line.order(false, 1, 1);
        line.garble(HOUSE, 0);
        line.come(HOUSE, 1);
        line.pass(10);
        line.garble(TRADER, 0);
        line.come(HOUSE, 1);
        line.come(TRADER, 1);
        CHECK.is("the house asked", line.onWay(TRADER), 1);
        int before = line.onWay(HOUSE);
        line.come(TRADER, 1);
        CHECK.is("the RESEND is held back behind a garbled BEAT", line.held(TRADER), 1);
        CHECK.is("and answered at once: two ORDERs and a FILL, behind them a RESEND", line.onWay(HOUSE) - before, 4);
        line.come(HOUSE, 100);
        int sentByThen = line.onWay(HOUSE);
        line.come(TRADER, 2);
        CHECK.is("two ACKs are held back behind the RESEND", line.held(TRADER), 3);
        line.come(TRADER, 1);
        CHECK.is("the FILL for BEAT and RESEND throws the RESEND away", line.held(TRADER), 0);
        CHECK.is("it is not answered once more", line.onWay(HOUSE), sentByThen);
        takenResend();
    }

    /** The gap is an ACK, so that the RESEND behind it is taken from what is held back, not thrown away. */
    private static void takenResend() {
        TradeLine line = Lines.on();
        line.order(false, 1, 1);
        line.come(HOUSE, 1);
        line.order(false, 1, 1);
        line.order(false, 1, 1);
        line.garble(HOUSE, 0);
        line.come(HOUSE, 2);
        line.garble(TRADER, 0);
        line.come(TRADER, 1);
        line.come(TRADER, 1);
        CHECK.is("the RESEND is held back and answered", line.held(TRADER) * 10 + line.onWay(HOUSE), 13);
        line.come(HOUSE, 3);
        line.come(TRADER, 2);
        CHECK.is("two ACKs more are held back", line.held(TRADER), 3);
        int before = line.onWay(HOUSE);
        line.come(TRADER, 1);
        CHECK.is("the ACK comes again, and the RESEND and all behind it are taken", line.held(TRADER) * 100 + line.expected(TRADER), 6);
        CHECK.is("which answers no RESEND once more", line.onWay(HOUSE), before);
    }

    private static void promise4Stale() {
        for (int ticks = 20; ticks <= 21; ticks++) {
            TradeLine line = Lines.on();
            line.order(false, 1, 1);
            line.garble(HOUSE, 0);
            line.come(HOUSE, 1);
            line.pass(ticks);
            line.come(HOUSE, 1);
            line.come(TRADER, 100);
            CHECK.is("an ORDER of " + ticks + " ticks is left out", line.isLeftOut(0), ticks > 20);
            Lines.settle(line);
            CHECK.is("then the house has it not", line.left(HOUSE, 0), ticks > 20 ? -1 : 1);
            CHECK.is("and it stays left out", line.isLeftOut(0), ticks > 20);
        }
    }

    private static void promise4WentAgain() {
        TradeLine line = Lines.on();
        line.order(false, 1, 1);
        line.garble(HOUSE, 0);
        line.come(HOUSE, 1);
        line.pass(10);
        line.come(HOUSE, 1);
        line.come(TRADER, 100);
        line.garble(HOUSE, 0);
        CHECK.is("the ORDER went again", line.garble(HOUSE, 0), 2);
        line.come(HOUSE, 100);
        line.pass(14);
        line.come(HOUSE, 100);
        line.come(TRADER, 100);
        CHECK.is("one that has gone again goes again 24 ticks later", line.isLeftOut(0), false);
        Lines.settle(line);
        CHECK.is("and comes", line.left(HOUSE, 0), 1);
    }

    private static void promise4Test() {
        TradeLine line = Lines.on();
        line.pass(15);
        CHECK.is("BEAT and TEST to the house", line.onWay(HOUSE), 2);
        line.come(HOUSE, 1);
        CHECK.is("a BEAT is not answered", line.sent(HOUSE), 3);
        line.come(HOUSE, 1);
        CHECK.same("a TEST is answered by a BEAT", Lines.body(line, HOUSE, 4), "35=1 34=4");
    }

    private static void promise5() {
        TradeLine line = new TradeLine();
        CHECK.refuses("garble when nothing is on its way", line, Check.OUT_OF_BOUNDS, () -> line.garble(HOUSE, 0));
        line.connect(false);
        line.come(TRADER, 1);
        line.order(true, 1, 1);
        line.come(HOUSE, 1);
        line.quote(0, true, 1, 1);
        line.pass(10);
        CHECK.is("something is on its way to both", Math.min(line.onWay(TRADER), line.onWay(HOUSE)) > 0, true);
        CHECK.refuses("garble for side 2", line, Check.OUT_OF_BOUNDS, () -> line.garble(2, 0));
        CHECK.refuses("garble for side -1", line, Check.OUT_OF_BOUNDS, () -> line.garble(-1, 0));
    }

    private static void promise5OfOne() {
        TradeLine line = new TradeLine();
        line.connect(false);
        line.come(TRADER, 1);
        line.order(true, 1, 1);
        CHECK.refuses("garble at -1", line, Check.OUT_OF_BOUNDS, () -> line.garble(HOUSE, -1));
        CHECK.refuses("garble behind the last", line, Check.OUT_OF_BOUNDS, () -> line.garble(HOUSE, 2));
        CHECK.is("garble the second", line.garble(HOUSE, 1), 2);
        CHECK.is("garble it once more", line.garble(HOUSE, 1), 2);
        CHECK.is("garble leaves it on its way", line.onWay(HOUSE), 2);
        line.come(HOUSE, 2);
        CHECK.is("only the garbled one is lost", line.expected(HOUSE), 2);
        CHECK.is("what is kept is not garbled", line.fields(TRADER, 2), 7);
        line.order(true, 1, 1);
        line.come(HOUSE, 1);
        line.come(TRADER, 1);
        line.come(HOUSE, 9);
        CHECK.is("it goes again whole", line.left(HOUSE, 0), 1);
    }

    private static void promise6() {
        TradeLine line = new TradeLine();
        CHECK.refuses("pass 0", line, Check.ARGUMENT, () -> line.pass(0));
        CHECK.refuses("pass 51", line, Check.ARGUMENT, () -> line.pass(51));
        CHECK.refuses("pass -1", line, Check.ARGUMENT, () -> line.pass(-1));
        CHECK.is("pass 50 when down", line.pass(50), 0);
        line.connect(false);
        CHECK.is("pass when up and nobody is on", line.pass(50), 0);
        CHECK.is("then the line stays up", line.isUp(), true);
        line.come(HOUSE, 1);
        CHECK.is("the house has sent nothing for 50 ticks: a BEAT at once", line.pass(1), 1);
        CHECK.is("the trader is not on", line.sent(TRADER), 1);
    }

    private static void promise6Beats() {
        TradeLine line = Lines.on();
        CHECK.is("9 ticks: nothing", line.pass(9), 0);
        line.order(false, 1, 1);
        CHECK.is("10 ticks: a BEAT of the house alone", line.pass(1), 1);
        CHECK.same("BEAT", Lines.last(line, HOUSE), "35=1");
        CHECK.is("until the trader has sent nothing for 10 ticks", line.pass(4), 0);
        CHECK.is("at 15 both TEST", line.pass(1), 2);
        CHECK.same("TEST", Lines.last(line, TRADER), "35=2");
        CHECK.is("a TEST counts as sent", line.pass(9), 0);
    }

    private static void promise6Quiet() {
        TradeLine line = Lines.on();
        line.pass(10);
        line.come(TRADER, 1);
        CHECK.is("the house TESTs at 15", line.pass(5), 1);
        CHECK.is("both BEAT, the trader at 20, the house at 25, both TEST at 25 or go down", line.pass(9), 1);
        CHECK.is("up at 24", line.isUp(), true);
        CHECK.is("at 25 the trader TESTs, the house BEATs", line.pass(1), 2);
        CHECK.is("down at 25, by the house", line.isUp(), false);
        CHECK.is("what was on its way is lost", line.onWay(HOUSE) + line.onWay(TRADER), 0);
        CHECK.is("nothing more is sent", line.pass(50), 0);
        garbledDoesNotCount();
    }

    private static void garbledDoesNotCount() {
        TradeLine line = Lines.on();
        line.pass(10);
        line.garble(TRADER, 0);
        line.come(TRADER, 1);
        line.come(HOUSE, 1);
        CHECK.is("a garbled message does not count as come", line.pass(5), 1);
        CHECK.same("so that the trader TESTs", Lines.last(line, TRADER), "35=2");
    }

    private static void promise6BothDown() {
        TradeLine line = Lines.on();
        CHECK.is("10: two BEATs, 15: two TESTs", line.pass(24), 4);
        CHECK.is("25: the trader's BEAT, then the line goes down ahead of the house's", line.pass(1), 1);
        CHECK.is("down", line.isUp(), false);
        line.connect(false);
        CHECK.is("ticks count from the connecting", line.pass(9), 0);
        Lines.settle(line);
        CHECK.is("a RESEND each, answered: from then on", line.pass(9), 0);
    }

    private static void promise6SendingAgainCounts() {
        TradeLine line = Lines.on();
        line.order(false, 1, 1);
        line.order(false, 1, 1);
        line.garble(HOUSE, 0);
        line.pass(6);
        line.come(HOUSE, 2);
        line.come(TRADER, 1);
        CHECK.is("messages that went again count as sent", line.pass(9), 0);
        CHECK.is("so both BEAT 10 ticks later", line.pass(1), 2);
    }

    private static void promise7() {
        TradeLine line = new TradeLine();
        line.connect(true);
        CHECK.is("isUp", line.isUp(), true);
        line.cut();
        CHECK.is("isUp when cut", line.isUp(), false);
    }

    private static void promise8() {
        TradeLine line = new TradeLine();
        CHECK.refuses("isOn of side 2", line, Check.OUT_OF_BOUNDS, () -> line.isOn(2) ? 1 : 0);
        CHECK.refuses("isOn of side -1", line, Check.OUT_OF_BOUNDS, () -> line.isOn(-1) ? 1 : 0);
        line.connect(false);
        line.come(HOUSE, 1);
        CHECK.is("isOn the house", line.isOn(HOUSE), true);
        CHECK.is("isOn the trader", line.isOn(TRADER), false);
    }

    private static void promise9() {
        TradeLine line = Lines.on();
        CHECK.refuses("onWay of side 2", line, Check.OUT_OF_BOUNDS, () -> line.onWay(2));
        CHECK.refuses("onWay of side -1", line, Check.OUT_OF_BOUNDS, () -> line.onWay(-1));
        line.order(false, 1, 1);
        CHECK.is("onWay to the house", line.onWay(HOUSE), 1);
        CHECK.is("onWay to the trader", line.onWay(TRADER), 0);
        manyOnTheirWay(Lines.on());
    }

    /** More than any row holds at first, put and taken in turns. */
    private static void manyOnTheirWay(TradeLine line) {
        for (int i = 0; i < 30; i++) {
            line.order(false, 50, 1);
        }
        line.come(HOUSE, 20);
        for (int i = 0; i < 4; i++) {
            for (int order = 0; order < 30; order++) {
                line.replace(order, 40, 20 + i);
            }
        }
        int waiting = line.onWay(HOUSE);
        int sent = line.sent(TRADER);
        for (int place = 0; place < waiting; place++) {
            CHECK.is("the numbers of those on their way run on", line.garble(HOUSE, place), sent - waiting + 1 + place);
        }
        CHECK.is("100 come at most", line.come(HOUSE, 100), 100);
        CHECK.is("the others stay", line.onWay(HOUSE), waiting - 100);
    }

    private static void promise10() {
        TradeLine line = Lines.on();
        CHECK.refuses("sent of side 2", line, Check.OUT_OF_BOUNDS, () -> line.sent(2));
        CHECK.refuses("sent of side -1", line, Check.OUT_OF_BOUNDS, () -> line.sent(-1));
        line.order(false, 1, 1);
        CHECK.is("sent by the trader", line.sent(TRADER), 2);
        CHECK.is("sent by the house", line.sent(HOUSE), 1);
        TradeLine down = Lines.on();
        Lines.ordered(down, false, 9, 9);
        down.cut();
        down.quote(0, false, 9, 1);
        CHECK.is("what is sent when the line is down is kept and numbered", down.sent(HOUSE), 3);
        CHECK.is("and is on no way", down.onWay(TRADER), 0);
    }

    private static void promise11() {
        TradeLine line = Lines.on();
        CHECK.refuses("expected of side 2", line, Check.OUT_OF_BOUNDS, () -> line.expected(2));
        CHECK.refuses("expected of side -1", line, Check.OUT_OF_BOUNDS, () -> line.expected(-1));
        line.order(false, 1, 1);
        line.come(HOUSE, 1);
        CHECK.is("expected by the house", line.expected(HOUSE), 3);
        CHECK.is("expected by the trader", line.expected(TRADER), 2);
    }

    private static void promise12() {
        TradeLine line = Lines.on();
        CHECK.refuses("held of side 2", line, Check.OUT_OF_BOUNDS, () -> line.held(2));
        CHECK.refuses("held of side -1", line, Check.OUT_OF_BOUNDS, () -> line.held(-1));
        line.order(false, 1, 1);
        line.order(false, 1, 1);
        line.garble(HOUSE, 0);
        line.come(HOUSE, 2);
        CHECK.is("held by the house", line.held(HOUSE), 1);
        CHECK.is("held by the trader", line.held(TRADER), 0);
        line.come(TRADER, 1);
        line.garble(HOUSE, 0);
        line.come(HOUSE, 2);
        CHECK.is("one of the same number takes its place", line.held(HOUSE), 1);
        line.cut();
        CHECK.is("held is forgotten when the line goes down", line.held(HOUSE), 0);
    }
}
