import java.util.ArrayList;
import java.util.List;
import java.util.function.Supplier;

/** What the tests share: counted comparisons, and a trace of all that an object shows. */
final class Check {
    static final String INDEX = "throws.IndexOutOfBoundsException";
    static final String ARGUMENT = "throws.IllegalArgumentException";
    static final String STATE = "throws.IllegalStateException";

    private static int compared = 0;
    private static int wrong = 0;
    private static String sentence = "";

    interface Call {
        Object on(TidegateBourse x);
    }

    private Check() {
    }

    static String answer(TidegateBourse x, Call call) {
        try {
            return String.valueOf(call.on(x));
        } catch (RuntimeException thrown) {
            return "throws." + thrown.getClass().getSimpleName();
        }
    }

    /** The document's sentence that the comparisons behind this call are about: a wrong one is told with it. */
    static void sentence(String words) {
        sentence = "\"" + words + "\": ";
    }

    static void due(String what, Object got, Object want) {
        compared++;
        if (!String.valueOf(want).equals(String.valueOf(got))) {
            wrong++;
            System.out.println(sentence + what + " answered " + got + ", due is " + want);
        }
    }

    static void call(String what, TidegateBourse x, Call call, Object want) {
        due(what, answer(x, call), want);
    }

    /** The call throws what is wanted, and all that can be seen later is as if it had not been made. */
    static void refused(String what, Supplier<TidegateBourse> maker, Call call, String want) {
        TidegateBourse x = maker.get();
        due(what, answer(x, call), want);
        due("after " + what, trace(x), trace(maker.get()));
    }

    static TidegateBourse at(int hour) {
        TidegateBourse x = new TidegateBourse();
        passTo(x, hour);
        return x;
    }

    /** Counts by itself, so that it ends also when pass or now is broken. */
    static void passTo(TidegateBourse x, int hour) {
        for (int left = hour - x.now(); left > 0; left -= 48) {
            x.pass(Math.min(48, left));
        }
    }

    static int bits(float value) {
        return Float.floatToIntBits(value);
    }

    /** All that the object shows: the questions, then the setters' answers, then the questions after hours went by. */
    static List<String> trace(TidegateBourse x) {
        List<String> seen = new ArrayList<>();
        questions(x, seen);
        seen.add(answer(x, y -> y.pass(1)));
        questions(x, seen);
        seen.add(answer(x, y -> y.pass(24)));
        questions(x, seen);
        for (int hour = 0; hour < 24; hour++) {
            int day = hour;
            seen.add(answer(x, y -> y.tide(day, 0)));
            seen.add(answer(x, y -> y.price(day, 1)));
        }
        seen.add(answer(x, y -> y.wind(0)));
        seen.add(answer(x, y -> y.limit(0)));
        seen.add(answer(x, y -> y.turbine()));
        return seen;
    }

    private static void questions(TidegateBourse x, List<String> seen) {
        int now = x.now();
        seen.add("now " + now + " closed " + x.closed() + " money " + x.money());
        for (int turbine = 0; turbine < 4; turbine++) {
            for (int what = 0; what < 3; what++) {
                int number = turbine;
                int asked = what;
                seen.add(answer(x, y -> y.about(number, asked)));
            }
        }
        for (int hour = Math.max(0, now - 6); hour < now; hour++) {
            seen.add("hour " + hour + " " + x.made(hour) + " " + x.madeAnew(hour) + " " + x.bought(hour)
                    + " " + x.head(hour));
        }
        for (int hour = Math.max(0, now - 1); hour <= now + 47; hour++) {
            seen.add("sold " + x.sold(hour));
        }
    }

    static void end() {
        System.out.println(compared + " answers compared, " + wrong + " wrong");
        if (wrong != 0 || compared == 0) {
            System.exit(1);
        }
    }
}
