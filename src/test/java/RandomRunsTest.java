/** Long runs of calls, drawn from a fixed row of numbers, against the model. */
public final class RandomRunsTest {
    private static final String[] NAMES = {"tide", "price", "wind", "turbine", "gate", "repair", "run", "limit", "sell",
        "pass", "now", "made", "madeAnew", "sold", "bought", "head", "about", "closed", "money"};
    private static final int RUNS = 3000;
    private static final int RICH_RUNS = 200;
    private static final int CALLS = 512;
    private static final int[] WILD = {Integer.MIN_VALUE, Integer.MAX_VALUE, -1, -101, 1001, 501, 548, 0};

    private long state;

    public static void main(String[] args) {
        for (int run = 0; run < RUNS; run++) {
            new RandomRunsTest(run).compare(run);
        }
        for (int run = 0; run < RICH_RUNS; run++) {
            new RandomRunsTest(RUNS + run).compareRich(run);
        }
        Check.end();
    }

    private RandomRunsTest(int run) {
        state = run * 7919L + 1;
    }

    private int below(int bound) {
        state = state * 6364136223846793005L + 1442695040888963407L;
        return (int) ((state >>> 33) % bound);
    }

    /** From least to most, at times one beside them, and seldom something wild. */
    private int about(int least, int most) {
        int kind = below(60);
        if (kind == 0) {
            return WILD[below(WILD.length)];
        }
        if (kind == 1) {
            return least - 1;
        }
        if (kind == 2) {
            return most + 1;
        }
        if (kind < 8) {
            return kind % 2 == 0 ? least : most;
        }
        return least + below(Math.max(1, most - least + 1));
    }

    private void compare(int run) {
        TidegateBourse x = new TidegateBourse();
        Model model = new Model();
        int longest = 1 + below(24);
        for (int call = 0; call < CALLS; call++) {
            int method = call < 8 ? 3 + below(2) : below(NAMES.length);
            int a = first(method, model.now(), longest);
            int[] drawn = {method, a, second(method), about(1, 200)};
            compareCall("run " + run + ", call " + call, x, model, drawn);
        }
    }

    /** Money above 2 to the 24, where a float rounds small steps, comes of large sales that are bought back cheaply. */
    private void compareRich(int run) {
        TidegateBourse x = new TidegateBourse();
        Model model = new Model();
        for (int call = 0; call < CALLS; call++) {
            int[] drawn = {8, model.now() + below(48), 450 + below(51), 190 + below(11)};
            if (call < 24) {
                drawn = new int[] {1, call, 1 + below(3), 0};
            } else if (call < 30) {
                drawn = new int[] {call < 28 ? 3 : 4, below(4), 1 + below(7), 0};
            } else if (below(8) == 0) {
                drawn = new int[] {9, 1 + below(6), 0, 0};
            } else if (below(6) == 0) {
                drawn = new int[] {8, model.now() + below(48), 1 + below(5), 1 + below(3)};
            } else if (below(6) == 0) {
                drawn = new int[] {18, 0, 0, 0};
            }
            compareCall("rich run " + run + ", call " + call, x, model, drawn);
        }
    }

    private static void compareCall(String where, TidegateBourse x, Model model, int[] drawn) {
        int method = drawn[0];
        int a = drawn[1];
        int b = drawn[2];
        int c = drawn[3];
        String what = where + ": " + NAMES[method] + "(" + a + ", " + b + ", " + c + ")";
        Check.due(what, answer(x, method, a, b, c), model.answer(method, a, b, c));
    }

    private int first(int method, int now, int longest) {
        switch (method) {
            case 0:
            case 1: return about(0, 23);
            case 2: return about(-20, 20);
            case 4:
            case 5:
            case 16: return about(0, 3);
            case 6: return below(3) == 0 ? about(0, 1000) : about(0, 110);
            case 7: return below(2) == 0 ? about(0, 1000) : about(90, 110);
            case 8: return below(2) == 0 ? about(now, now + 47) : about(now, now + 2);
            case 9: return below(8) == 0 ? about(1, 48) : about(1, longest);
            case 13: return about(0, now + 47);
            default: return about(0, now - 1);
        }
    }

    private int second(int method) {
        switch (method) {
            case 0: return about(-100, 100);
            case 1: return about(1, 200);
            case 4: return about(0, 7);
            case 16: return about(0, 2);
            default: return about(1, 500);
        }
    }

    private static String answer(TidegateBourse x, int method, int a, int b, int c) {
        return Check.answer(x, y -> {
            switch (method) {
                case 0: return y.tide(a, b);
                case 1: return y.price(a, b);
                case 2: return y.wind(a);
                case 3: return y.turbine();
                case 4: return y.gate(a, b);
                case 5: return y.repair(a);
                case 6: return y.run(a);
                case 7: return y.limit(a);
                case 8: return y.sell(a, b, c);
                case 9: return y.pass(a);
                case 10: return y.now();
                case 11: return y.made(a);
                case 12: return y.madeAnew(a);
                case 13: return y.sold(a);
                case 14: return y.bought(a);
                case 15: return y.head(a);
                case 16: return y.about(a, b);
                case 17: return y.closed();
                default: return y.money();
            }
        });
    }
}
