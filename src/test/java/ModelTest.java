/** Long runs of calls, drawn by a fixed rule, on the class and on the model: all answers must be the same. */
public final class ModelTest {
    private static final int RUNS = 240;
    private static final int CALLS = 512;

    private final Check check = new Check("ModelTest");
    private long seed;
    private int shape;

    public static void main(String[] args) {
        ModelTest test = new ModelTest();
        for (int run = 0; run < RUNS; run++) {
            test.run(run);
        }
        test.check.end();
    }

    private void run(int run) {
        seed = 7919L * run + 12345;
        shape = run % 6;
        TradeLine line = new TradeLine();
        Model model = new Model();
        for (int call = 0; call < CALLS; call++) {
            String name = draw(100) < 80 && !line.isUp() ? "connect" : nameOf(draw(200));
            Object[] arguments = argumentsOf(name, line);
            String what = "run " + run + " call " + call + " " + Calls.text(name, arguments);
            check.same(what, Calls.answer(line, name, arguments), Calls.answer(model, name, arguments));
            check.same(what + ", then sides", sides(line), sides(model));
            if (call % 64 == 63) {
                check.same(what + ", then all", Calls.everything(line), Calls.everything(model));
            }
        }
    }

    private static String sides(Object line) {
        StringBuilder all = new StringBuilder();
        for (int side = 0; side < 2; side++) {
            for (String name : new String[] {"isOn", "onWay", "sent", "expected", "held"}) {
                all.append(Calls.answer(line, name, side)).append(' ');
            }
        }
        return all.append(Calls.answer(line, "agree")).toString();
    }

    private int draw(int bound) {
        seed = seed * 6364136223846793005L + 1442695040888963407L;
        return (int) ((seed >>> 33) % bound);
    }

    /** The shapes of runs differ in how much is lost, how much time passes and how much is traded. */
    private String nameOf(int drawn) {
        int garbles = new int[] {0, 25, 6, 25, 2, 12}[shape];
        int passes = new int[] {6, 12, 20, 4, 2, 30}[shape];
        int cuts = new int[] {0, 0, 6, 2, 3, 1}[shape];
        int[] weights = {garbles, passes, cuts, 60, 18, 12, 14, 16, 5, 6, 2, 2};
        String[] names = {"garble", "pass", "cut", "come", "order", "cancel", "replace", "quote", "bust", "correct", "endDay", "connect"};
        int rest = drawn;
        for (int i = 0; i < names.length; i++) {
            rest -= weights[i];
            if (rest < 0) {
                return names[i];
            }
        }
        return "come";
    }

    private Object[] argumentsOf(String name, TradeLine line) {
        int order = draw(20) == 0 ? draw(50) - 5 : draw(Math.max(1, line.orders()));
        int execution = draw(20) == 0 ? draw(120) - 5 : draw(Math.max(1, line.executions()));
        int price = draw(30) == 0 ? draw(104) - 1 : 45 + draw(10);
        int size = draw(30) == 0 ? draw(104) - 1 : 1 + draw(shape == 3 ? 100 : 30);
        int side = draw(60) == 0 ? draw(5) - 2 : draw(2);
        switch (name) {
            case "connect":
                return new Object[] {shape == 4 ? draw(2) == 0 : draw(8) == 0};
            case "come":
                return new Object[] {side, draw(40) == 0 ? draw(110) - 4 : 1 + draw(draw(4) == 0 ? 100 : 4)};
            case "garble":
                return new Object[] {side, draw(8) == 0 ? draw(30) - 2 : draw(3)};
            case "pass":
                return new Object[] {draw(30) == 0 ? draw(60) - 4 : 1 + draw(shape == 5 ? 16 : 7)};
            case "order":
                return new Object[] {draw(2) == 0, price, size};
            case "cancel":
                return new Object[] {order};
            case "replace":
                return new Object[] {order, price, size};
            case "quote":
                return new Object[] {draw(30) == 0 ? draw(7) - 2 : draw(3), draw(2) == 0, price, draw(30) == 0 ? draw(210) - 4 : draw(25)};
            case "bust":
                return new Object[] {execution};
            case "correct":
                return new Object[] {execution, price};
            default:
                return new Object[] {};
        }
    }
}
