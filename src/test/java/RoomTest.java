import com.sun.management.ThreadMXBean;
import java.lang.management.ManagementFactory;

/**
 * All calls of a run share one room of some 7.3 million fields and elements; the dearest runs of 512 calls
 * that the document allows must stay far below it. Counted are bytes, four at least for each of them.
 */
public final class RoomTest {
    private static final int CALLS = 512;
    private static final long ROOM = 7_300_000L * 4;
    private static final int HOUSE = TradeLine.HOUSE;
    private static final int TRADER = TradeLine.TRADER;
    private static final Check CHECK = new Check("RoomTest");
    private static final ThreadMXBean THREADS = (ThreadMXBean) ManagementFactory.getThreadMXBean();

    private int calls;

    public static void main(String[] args) {
        CHECK.is("answers of long histories", new RoomTest().answers() < ROOM / 4, true);
        CHECK.is("executions", new RoomTest().executions() < ROOM / 4, true);
        CHECK.is("refused calls", new RoomTest().refused() < ROOM / 4, true);
        CHECK.is("connecting and going down", new RoomTest().connects() < ROOM / 4, true);
        CHECK.end();
    }

    private static long allocated() {
        return THREADS.getThreadAllocatedBytes(Thread.currentThread().getId());
    }

    private boolean mayCall(int more) {
        calls += more;
        return calls <= CALLS;
    }

    /** All messages that a trader can send at once, of which the first is lost; they go again every 5 ticks. */
    private long answers() {
        long before = allocated();
        TradeLine line = new TradeLine();
        line.connect(false);
        line.come(TRADER, 1);
        line.come(HOUSE, 1);
        for (int order = 0; order < 40; order++) {
            line.order(false, 50, 100);
            for (int i = 0; i < 5; i++) {
                line.replace(order, 50, 100);
            }
        }
        line.garble(HOUSE, 0);
        line.come(HOUSE, 2);
        calls = 3 + 40 * 6 + 2;
        while (mayCall(3)) {
            line.come(TRADER, 1);
            line.pass(5);
            line.come(HOUSE, 1);
        }
        CHECK.is("the same 240 went again and again", line.onWay(HOUSE) > 80 * 240, true);
        return allocated() - before;
    }

    private long executions() {
        long before = allocated();
        TradeLine line = new TradeLine();
        line.connect(false);
        line.come(TRADER, 1);
        line.come(HOUSE, 1);
        for (int order = 0; order < 40; order++) {
            line.order(order % 2 == 0, 50, 100);
        }
        line.come(HOUSE, 100);
        calls = 44;
        while (mayCall(2)) {
            line.quote(calls % 3, calls % 4 < 2, 50, 1);
            line.correct(0, 1 + calls % 100);
        }
        CHECK.is("100 executions", line.executions(), 100);
        return allocated() - before;
    }

    private long refused() {
        long before = allocated();
        TradeLine line = new TradeLine();
        int refused = 0;
        while (mayCall(1)) {
            try {
                line.come(2, 0);
            } catch (IndexOutOfBoundsException thrown) {
                refused++;
            }
        }
        CHECK.is("all are refused", refused, CALLS);
        return allocated() - before;
    }

    private long connects() {
        long before = allocated();
        TradeLine line = new TradeLine();
        while (mayCall(4)) {
            line.connect(false);
            line.come(TRADER, 100);
            line.come(HOUSE, 100);
            line.cut();
        }
        CHECK.is("LOGONs and RESENDs are kept", line.sent(HOUSE) >= 128, true);
        return allocated() - before;
    }
}
