import java.lang.reflect.InvocationTargetException;
import java.lang.reflect.Method;
import java.util.Arrays;
import java.util.HashMap;
import java.util.Map;

/** Calls by name, on the class or on its model, with answers as texts. */
final class Calls {
    private static final Map<String, Method> METHODS = new HashMap<>();

    private Calls() {
    }

    /** The answer as a text; throws.NAME for an exception. */
    static String answer(Object target, String name, Object... arguments) {
        try {
            return String.valueOf(method(target, name).invoke(target, arguments));
        } catch (InvocationTargetException thrown) {
            return nameOf(thrown.getCause());
        } catch (IllegalAccessException broken) {
            throw new AssertionError(broken);
        }
    }

    /** An exception that the class did not throw by its own throw statement bears a mark. */
    static String nameOf(Throwable thrown) {
        StackTraceElement[] trace = thrown.getStackTrace();
        String thrower = trace.length == 0 ? "" : trace[0].getClassName();
        boolean own = thrower.startsWith("TradeLine") || thrower.startsWith("Model");
        return (own ? "throws." : "MACHINE THROWS.") + thrown.getClass().getSimpleName();
    }

    static String text(String name, Object... arguments) {
        return name + Arrays.toString(arguments).replace('[', '(').replace(']', ')');
    }

    /** The answers of all questions, to all arguments that there are and some that there are not. */
    static String everything(Object line) {
        StringBuilder all = new StringBuilder();
        for (String name : new String[] {"isUp", "executions", "orders", "agree"}) {
            ask(all, line, name);
        }
        for (int side = -1; side <= 2; side++) {
            for (String name : new String[] {"isOn", "onWay", "sent", "expected", "held"}) {
                ask(all, line, name, side);
            }
            askMessages(all, line, side);
        }
        askOrders(all, line);
        for (int venue = -1; venue <= 3; venue++) {
            ask(all, line, "quoted", venue, false);
            ask(all, line, "quoted", venue, true);
        }
        askTotals(all, line);
        return all.toString();
    }

    private static void askMessages(StringBuilder all, Object line, int side) {
        String last = answer(line, "sent", side);
        int count = last.startsWith("throws") ? 0 : Integer.parseInt(last);
        for (int number = 0; number <= count + 1; number++) {
            String fields = answer(line, "fields", side, number);
            all.append(fields).append(' ');
            int places = fields.startsWith("throws") ? 0 : Integer.parseInt(fields);
            for (int place = -1; place <= places; place++) {
                ask(all, line, "tagAt", side, number, place);
                ask(all, line, "valueAt", side, number, place);
            }
        }
    }

    private static void askOrders(StringBuilder all, Object line) {
        int count = Integer.parseInt(answer(line, "orders"));
        for (int order = -1; order <= count; order++) {
            for (String name : new String[] {"stateOf", "isLeftOut", "underWay", "venues"}) {
                ask(all, line, name, order);
            }
            for (int side = 0; side <= 2; side++) {
                for (String name : new String[] {"left", "done", "doneByLog", "out"}) {
                    ask(all, line, name, side, order);
                }
            }
        }
    }

    private static void askTotals(StringBuilder all, Object line) {
        for (int day = -1; day <= 600; day++) {
            if (day >= 0 && answer(line, "total", 0, day, false, 0).startsWith("throws")) {
                break;
            }
            for (int side = 0; side <= 2; side++) {
                for (int what = -1; what <= 2; what++) {
                    ask(all, line, "total", side, day, false, what);
                    ask(all, line, "total", side, day, true, what);
                }
            }
        }
    }

    private static void ask(StringBuilder all, Object line, String name, Object... arguments) {
        all.append(text(name, arguments)).append('=').append(answer(line, name, arguments)).append('\n');
    }

    private static Method method(Object target, String name) {
        String key = target.getClass().getName() + '.' + name;
        Method found = METHODS.get(key);
        if (found == null) {
            for (Method method : target.getClass().getDeclaredMethods()) {
                if (method.getName().equals(name)) {
                    found = method;
                }
            }
            if (found == null) {
                throw new AssertionError("no method " + key);
            }
            METHODS.put(key, found);
        }
        return found;
    }
}
