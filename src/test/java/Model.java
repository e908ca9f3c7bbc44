import java.util.ArrayList;
import java.util.HashMap;
import java.util.List;
import java.util.Map;

/** The document once more, in another form than the class: what was told is kept in maps and lists. */
final class Model {
    private static final class Turbine {
        private int gate;
        private int wear;
        private int inRepair;
    }

    private static final class Hour {
        private int head;
        private int made;
        private int bought;
    }

    private final Map<Integer, Integer> levels = new HashMap<>();
    private final Map<Integer, Integer> prices = new HashMap<>();
    private final Map<Integer, Integer> sales = new HashMap<>();
    private final List<Turbine> turbines = new ArrayList<>();
    private final List<Hour> past = new ArrayList<>();
    private int wind = 0;
    private int limit = 100;
    private int told = 0;
    private int closed = 0;
    private float money = 0f;

    /** The answer as text, or the exception's name behind "throws.". */
    String answer(int method, int a, int b, int c) {
        switch (method) {
            case 0: return out(a, 0, 23) ? Check.INDEX : out(b, -100, 100) ? Check.ARGUMENT : put(levels, a, b, 0);
            case 1: return out(a, 0, 23) ? Check.INDEX : out(b, 1, 200) ? Check.ARGUMENT : put(prices, a, b, 10);
            case 2: return out(a, -20, 20) ? Check.ARGUMENT : setWind(a);
            case 3: return turbines.size() == 4 ? Check.STATE : build();
            case 4: return noTurbine(a) ? Check.INDEX : out(b, 0, 7) ? Check.ARGUMENT : setGate(a, b);
            case 5: return noTurbine(a) ? Check.INDEX : repair(a);
            case 6: return out(a, 0, 1000) ? Check.ARGUMENT : run(a);
            case 7: return out(a, 0, 1000) ? Check.ARGUMENT : setLimit(a);
            case 8: return sell(a, b, c);
            case 9: return out(a, 1, 48) ? Check.ARGUMENT : past.size() + a > 500 ? Check.STATE : pass(a);
            default: return question(method, a, b);
        }
    }

    int now() {
        return past.size();
    }

    private String question(int method, int a, int b) {
        switch (method) {
            case 10: return "" + past.size();
            case 11:
            case 12: return notPast(a) ? Check.INDEX : "" + past.get(a).made;
            case 13: return out(a, 0, past.size() + 47) ? Check.INDEX : "" + sales.getOrDefault(a, 0);
            case 14: return notPast(a) ? Check.INDEX : "" + past.get(a).bought;
            case 15: return notPast(a) ? Check.INDEX : "" + past.get(a).head;
            case 16: return noTurbine(a) ? Check.INDEX : out(b, 0, 2) ? Check.ARGUMENT : about(turbines.get(a), b);
            case 17: return "" + closed;
            default: return "" + Float.floatToRawIntBits(money);
        }
    }

    private static boolean out(int value, int least, int most) {
        return value < least || value > most;
    }

    private boolean noTurbine(int number) {
        return out(number, 0, turbines.size() - 1);
    }

    private boolean notPast(int hour) {
        return out(hour, 0, past.size() - 1);
    }

    private static String put(Map<Integer, Integer> table, int key, int value, int first) {
        Integer before = table.put(key, value);
        return "" + (before == null ? first : before);
    }

    private String setWind(int value) {
        int before = wind;
        wind = value;
        return "" + before;
    }

    private String build() {
        turbines.add(new Turbine());
        return "" + (turbines.size() - 1);
    }

    private String setGate(int number, int gate) {
        int before = turbines.get(number).gate;
        turbines.get(number).gate = gate;
        return "" + before;
    }

    private String repair(int number) {
        int before = turbines.get(number).wear;
        turbines.get(number).wear = 0;
        turbines.get(number).inRepair = 5;
        return "" + before;
    }

    private String run(int fish) {
        told = fish;
        return "" + (told > limit);
    }

    private String setLimit(int fish) {
        int before = limit;
        limit = fish;
        return "" + before;
    }

    private String sell(int hour, int units, int price) {
        if (hour < past.size() || hour - past.size() > 47) {
            return Check.INDEX;
        }
        if (out(units, 1, 500) || out(price, 1, 200)) {
            return Check.ARGUMENT;
        }
        int then = sales.getOrDefault(hour, 0) + units;
        if (then > 1000) {
            return Check.STATE;
        }
        sales.put(hour, then);
        money += (float) units * (float) price;
        return "" + then;
    }

    private static String about(Turbine turbine, int what) {
        return "" + (what == 0 ? turbine.gate : what == 1 ? turbine.wear : turbine.inRepair);
    }

    private String pass(int hours) {
        for (int i = 0; i < hours; i++) {
            passOne();
        }
        return "" + past.size();
    }

    private void passOne() {
        int number = past.size();
        Hour hour = new Hour();
        hour.head = Math.abs(levels.getOrDefault(number % 24, 0) + wind);
        if (told > limit) {
            closed = 3;
        }
        for (Turbine turbine : turbines) {
            if (turbine.wear != 1000 && turbine.inRepair == 0 && closed == 0) {
                hour.made += Math.floorDiv(hour.head * turbine.gate * (1000 - turbine.wear), 8000);
                if (turbine.gate != 0) {
                    turbine.wear = Math.min(1000, turbine.wear + turbine.gate + (hour.head > 60 ? 2 : 0));
                }
            }
            turbine.inRepair = Math.max(0, turbine.inRepair - 1);
        }
        closed = Math.max(0, closed - 1);
        int sold = sales.getOrDefault(number, 0);
        float price = prices.getOrDefault(number % 24, 10);
        if (hour.made < sold) {
            hour.bought = sold - hour.made;
            money -= (float) hour.bought * price;
        }
        if (hour.made > sold) {
            money += (float) (hour.made - sold) * price * 0.5f;
        }
        told = 0;
        past.add(hour);
    }
}
