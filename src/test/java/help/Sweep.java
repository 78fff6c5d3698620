import java.util.ArrayList;
import java.util.List;

/**
 * Every call with every choice of edge values as arguments, on one object: what must be refused is refused
 * with the exception that the throws clause names first; no question that has an answer is refused. Calls
 * that would change the object are left out.
 */
final class Sweep {
    private static final int LEAST = Integer.MIN_VALUE;
    private static final int GREATEST = Integer.MAX_VALUE;
    private static final Object[] BOTH = {false, true};

    private final Check check;
    private final String title;
    private final TradeLine line;
    private final Model model;
    private final int today;
    private final Object[] sides = {LEAST, -1, 0, 1, 2, GREATEST};
    private final Object[] venues = {LEAST, -1, 0, 2, 3, GREATEST};
    private final Object[] hundreds = {LEAST, -1, 0, 1, 100, 101, GREATEST};
    private final Object[] quoted = {LEAST, -1, 0, 1, 200, 201, GREATEST};
    private final Object[] ticks = {LEAST, -1, 0, 1, 50, 51, GREATEST};
    private final Object[] places = {LEAST, -1, 0, 2, 3, 6, 7, 9, 10, 1 << 30, GREATEST};

    Sweep(Check check, String title, TradeLine line, Model model) {
        this.check = check;
        this.title = title;
        this.line = line;
        this.model = model;
        int day = 0;
        while (!Calls.answer(model, "total", 0, day + 1, false, 0).startsWith("throws.")) {
            day++;
        }
        today = day;
    }

    void all() {
        Object[] orders = around(line.orders());
        Object[] executions = around(line.executions());
        Object[] messages = {LEAST, -1, 0, 1, line.sent(0), line.sent(0) + 1, line.sent(1), line.sent(1) + 1, GREATEST};
        Object[] waiting = {LEAST, -1, 0, line.onWay(0) - 1, line.onWay(0), line.onWay(1) - 1, line.onWay(1), GREATEST};
        Object[] days = {LEAST, -1, 0, today, today + 1, GREATEST};
        each("connect", BOTH);
        each("cut");
        each("come", sides, hundreds);
        each("garble", sides, waiting);
        each("pass", new Object[][] {ticks});
        each("isUp");
        for (String name : new String[] {"isOn", "onWay", "sent", "expected", "held"}) {
            each(name, new Object[][] {sides});
        }
        each("fields", sides, messages);
        each("tagAt", sides, messages, places);
        each("valueAt", sides, messages, places);
        each("order", BOTH, hundreds, hundreds);
        each("replace", orders, hundreds, hundreds);
        for (String name : new String[] {"cancel", "stateOf", "isLeftOut", "underWay", "venues"}) {
            each(name, new Object[][] {orders});
        }
        each("quote", venues, BOTH, hundreds, quoted);
        each("quoted", venues, BOTH);
        each("bust", new Object[][] {executions});
        each("correct", executions, hundreds);
        for (String name : new String[] {"executions", "endDay", "orders", "agree"}) {
            each(name);
        }
        for (String name : new String[] {"left", "done", "doneByLog", "out"}) {
            each(name, sides, orders);
        }
        each("total", sides, days, BOTH, new Object[] {LEAST, -1, 0, 1, 2, GREATEST});
    }

    private static Object[] around(int count) {
        return new Object[] {LEAST, -1, 0, 1, count - 1, count, count + 1, GREATEST};
    }

    private void each(String name, Object[]... choices) {
        choose(name, new ArrayList<>(), choices);
    }

    private void choose(String name, List<Object> chosen, Object[][] choices) {
        if (chosen.size() == choices.length) {
            one(name, chosen.toArray());
            return;
        }
        for (Object choice : choices[chosen.size()]) {
            chosen.add(choice);
            choose(name, chosen, choices);
            chosen.remove(chosen.size() - 1);
        }
    }

    private void one(String name, Object[] arguments) {
        String due = due(name, arguments);
        String what = title + " " + Calls.text(name, arguments);
        if (due != null) {
            check.same(what, Calls.answer(line, name, arguments), due);
        } else if (!Edges.CHANGES.contains(name)) {
            check.same(what, Calls.answer(line, name, arguments), Calls.answer(model, name, arguments));
            check.is(what + " is not refused", Calls.answer(line, name, arguments).contains("throws."), false);
        }
    }

    /** What the throws clause of the call asks for, null for nothing. */
    private String due(String name, Object[] given) {
        switch (name) {
            case "connect":
                return state(!line.isUp());
            case "cut":
                return state(line.isUp());
            case "come":
                return first(index(isSide(given[0])), argument(isIn(given[1], 1, 100)));
            case "garble":
                return index(isSide(given[0]) && isIn(given[1], 0, line.onWay((int) given[0]) - 1));
            case "pass":
                return argument(isIn(given[0], 1, 50));
            case "isOn": case "onWay": case "sent": case "expected": case "held":
                return index(isSide(given[0]));
            case "fields":
                return index(isMessage(given));
            case "tagAt": case "valueAt":
                return index(isMessage(given) && isIn(given[2], 0, line.fields((int) given[0], (int) given[1]) - 1));
            case "left": case "done": case "doneByLog": case "out":
                return index(isSide(given[0]) && isOrder(given[1]));
            case "total":
                return first(index(isSide(given[0]) && isIn(given[1], 0, today)), argument(isIn(given[3], 0, 1)));
            default:
                return dueOfTrade(name, given);
        }
    }

    private String dueOfTrade(String name, Object[] given) {
        switch (name) {
            case "order":
                return first(argument(isPriceAndSize(given)), state(line.isOn(0) && line.orders() < 40));
            case "cancel":
                return first(index(isOrder(given[0])), state(isAskable(given[0])));
            case "replace":
                return first(index(isOrder(given[0])), argument(isPriceAndSize(given)), state(isAskable(given[0])));
            case "stateOf": case "isLeftOut": case "underWay": case "venues":
                return index(isOrder(given[0]));
            case "quote":
                return first(index(isIn(given[0], 0, 2)), argument(isIn(given[2], 1, 100) && isIn(given[3], 0, 200)));
            case "quoted":
                return index(isIn(given[0], 0, 2));
            case "bust":
                return first(index(isExecution(given[0])), state(!model.isBusted((int) given[0])));
            case "correct":
                return first(index(isExecution(given[0])), argument(isIn(given[1], 1, 100)), state(!model.isBusted((int) given[0])));
            default:
                return null;
        }
    }

    private static String first(String... dues) {
        for (String due : dues) {
            if (due != null) {
                return due;
            }
        }
        return null;
    }

    private static String index(boolean fine) {
        return fine ? null : Check.OUT_OF_BOUNDS;
    }

    private static String argument(boolean fine) {
        return fine ? null : Check.ARGUMENT;
    }

    private static String state(boolean fine) {
        return fine ? null : Check.STATE;
    }

    private static boolean isIn(Object given, int least, int most) {
        return (int) given >= least && (int) given <= most;
    }

    private static boolean isSide(Object given) {
        return isIn(given, 0, 1);
    }

    private boolean isOrder(Object given) {
        return isIn(given, 0, line.orders() - 1);
    }

    private boolean isExecution(Object given) {
        return isIn(given, 0, line.executions() - 1);
    }

    private boolean isMessage(Object[] given) {
        return isSide(given[0]) && isIn(given[1], 1, line.sent((int) given[0]));
    }

    private static boolean isPriceAndSize(Object[] given) {
        return isIn(given[1], 1, 100) && isIn(given[2], 1, 100);
    }

    private boolean isAskable(Object given) {
        return isOrder(given) && line.isOn(0) && line.stateOf((int) given) != TradeLine.OVER && line.underWay((int) given) < 5;
    }
}
