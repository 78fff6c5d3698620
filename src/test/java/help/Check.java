import java.util.function.IntSupplier;

/** Compares answers with those that are due, and ends the program with 1 if one was wrong. */
final class Check {
    static final String OUT_OF_BOUNDS = "throws.IndexOutOfBoundsException";
    static final String ARGUMENT = "throws.IllegalArgumentException";
    static final String STATE = "throws.IllegalStateException";

    private final String name;
    private int asked;
    private int wrong;

    Check(String name) {
        this.name = name;
    }

    void is(String what, long got, long want) {
        same(what, Long.toString(got), Long.toString(want));
    }

    void is(String what, boolean got, boolean want) {
        same(what, Boolean.toString(got), Boolean.toString(want));
    }

    void same(String what, String got, String want) {
        asked++;
        if (!got.equals(want)) {
            wrong++;
            System.out.println(name + ": " + what + " answered " + got + ", due is " + want);
        }
    }

    /** The call must throw just this, by a throw statement of the class, and change nothing of the line. */
    void refuses(String what, TradeLine line, String due, IntSupplier call) {
        String before = Calls.everything(line);
        String got;
        try {
            got = Integer.toString(call.getAsInt());
        } catch (RuntimeException thrown) {
            got = Calls.nameOf(thrown);
        }
        same(what, got, due);
        same(what + " leaves all as it was", Calls.everything(line), before);
    }

    void end() {
        if (asked == 0) {
            System.out.println(name + ": nothing was asked");
            System.exit(1);
        }
        if (wrong != 0) {
            System.out.println(name + ": " + wrong + " of " + asked + " answers are wrong");
            System.exit(1);
        }
    }
}
