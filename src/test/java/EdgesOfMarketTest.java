import java.util.function.Supplier;

/** Each sentence of the document's 'Market' and 'Exceptions' that names an edge, with a test of its own. */
public final class EdgesOfMarketTest {
    private static final int FAR = Integer.MAX_VALUE;
    private static final int DEEP = Integer.MIN_VALUE;

    public static void main(String[] args) {
        soldUpTo47Ahead();
        soldIsMoneyAtOnce();
        missingIsBought();
        priceOfTheHourThatGoesBy();
        tooMuchIsSoldForHalf();
        moneyIsAFloat();
        halvesAreHeldBelow2ToThe23();
        moneyAsItComes();
        moneyFarBelow0();
        noSuchTurbineOrHour();
        anotherArgumentIsOutOfRange();
        theFirstNamedIsThrown();
        refusedCallsChangeNothing();
        Check.end();
    }

    private static void money(TidegateBourse x, float due) {
        Check.call("money()", x, y -> y.money(), Check.bits(due));
    }

    private static void bought(TidegateBourse x, int hour, int due) {
        Check.call("bought(" + hour + ")", x, y -> y.bought(hour), due);
    }

    /** One turbine that makes 105 in the hour 0. */
    private static TidegateBourse makes105() {
        TidegateBourse x = new TidegateBourse();
        x.turbine();
        x.gate(0, 7);
        x.tide(0, 100);
        x.wind(20);
        return x;
    }

    private static void soldUpTo47Ahead() {
        Check.sentence("Units are sold for an hour that has not gone by, up to 47 ahead of the next one");
        for (int next : new int[] {0, 1, 47, 48, 452, 453, 454, 499, 500}) {
            TidegateBourse x = Check.at(next);
            Check.call("sell of the next hour at " + next, x, y -> y.sell(next, 3, 2), 3);
            Check.call("sell of 47 ahead at " + next, x, y -> y.sell(next + 47, 4, 1), 4);
            Check.call("sell of 48 ahead at " + next, x, y -> y.sell(next + 48, 1, 1), Check.INDEX);
            Check.call("sell of an hour behind at " + next, x, y -> y.sell(next - 1, 1, 1), Check.INDEX);
            Check.call("sold of the next hour at " + next, x, y -> y.sold(next), 3);
            Check.call("sold of 47 ahead at " + next, x, y -> y.sold(next + 47), 4);
            Check.call("sold of 48 ahead at " + next, x, y -> y.sold(next + 48), Check.INDEX);
        }
    }

    private static void soldIsMoneyAtOnce() {
        Check.sentence("at a price each, which is money at once.");
        TidegateBourse x = new TidegateBourse();
        x.price(0, 200);
        x.sell(0, 1, 1);
        money(x, 1f);
        x.sell(0, 2, 3);
        money(x, 7f);
        x.sell(47, 500, 200);
        money(x, 100007f);
        x.sell(47, 500, 1);
        money(x, 100507f);
        Check.call("sell above 1000", x, y -> y.sell(47, 1, 200), Check.STATE);
        money(x, 100507f);
        TidegateBourse last = Check.at(500);
        last.sell(547, 10, 10);
        money(last, 100f);
    }

    private static void missingIsBought() {
        Check.sentence("When an hour goes by, and less was made in it than is sold for it, the rest is bought, at the "
                + "price of its hour of the day each");
        int[][] due = {{1, 0}, {104, 0}, {105, 0}, {106, 1}, {205, 100}, {500, 395}};
        for (int[] sale : due) {
            TidegateBourse x = makes105();
            x.price(0, 9);
            x.sell(0, sale[0], 1);
            x.pass(1);
            bought(x, 0, sale[1]);
            float tooMuch = sale[0] < 105 ? 105 - sale[0] : 0;
            money(x, sale[0] - 9f * sale[1] + 4.5f * tooMuch);
        }
        TidegateBourse full = new TidegateBourse();
        full.price(0, 200);
        full.sell(0, 500, 1);
        full.sell(0, 500, 1);
        full.pass(1);
        bought(full, 0, 1000);
        money(full, 1000f - 200000f);
        TidegateBourse none = new TidegateBourse();
        none.pass(48);
        bought(none, 0, 0);
        bought(none, 47, 0);
        money(none, 0f);
    }

    private static void priceOfTheHourThatGoesBy() {
        Check.sentence("bought at the price of then");
        TidegateBourse x = new TidegateBourse();
        x.price(0, 20);
        x.sell(0, 1, 1);
        x.sell(24, 1, 1);
        x.sell(23, 1, 1);
        x.price(0, 30);
        x.price(23, 5);
        x.pass(1);
        money(x, 3f - 30f);
        x.price(0, 40);
        money(x, 3f - 30f);
        x.pass(23);
        money(x, 3f - 30f - 5f);
        x.pass(1);
        money(x, 3f - 30f - 5f - 40f);
    }

    private static void tooMuchIsSoldForHalf() {
        Check.sentence("if more was made, what is too much is sold at half of that price each.");
        int[][] due = {{1, 1, 105}, {1, 2, 210}, {1, 199, 20895}, {1, 200, 21000}, {4, 200, 84000}};
        for (int[] made : due) {
            TidegateBourse x = makes105();
            x.price(0, made[1]);
            for (int number = 1; number < made[0]; number++) {
                x.turbine();
                x.gate(number, 7);
            }
            x.pass(1);
            bought(x, 0, 0);
            money(x, made[2] * 0.5f);
        }
        TidegateBourse one = makes105();
        one.price(0, 7);
        one.sell(0, 104, 1);
        one.pass(1);
        money(one, 104f + 3.5f);
        Check.call("what is too much is not sold ahead", one, y -> y.sold(0), 104);
        TidegateBourse even = makes105();
        even.sell(0, 105, 1);
        even.pass(1);
        money(even, 105f);
    }

    private static void moneyIsAFloat() {
        Check.sentence("Money is a float, 0 at first");
        TidegateBourse x = new TidegateBourse();
        Check.call("money() at first", x, y -> y.money(), 0);
        x.sell(0, 1, 1);
        Check.call("money() of 1", x, y -> y.money(), 0x3F800000);
        x.sell(0, 1, 1);
        Check.call("money() of 2", x, y -> y.money(), 0x40000000);
        x.sell(0, 1, 1);
        Check.call("money() of 3", x, y -> y.money(), 0x40400000);
        x.price(0, 1);
        x.pass(1);
        Check.call("money() of 0 again", x, y -> y.money(), 0);
        x.price(1, 2);
        x.sell(1, 1, 1);
        x.pass(1);
        Check.call("money() of -1", x, y -> y.money(), 0xBF800000);
        x.sell(47, 1, 1);
        Check.call("money() of 0 from below", x, y -> y.money(), 0);
        oneTooMuch(x);
        Check.call("money() of a half", x, y -> y.money(), 0x3F000000);
        x.price(3, 2);
        x.sell(3, 1, 1);
        x.pass(1);
        Check.call("money() of a half below 0", x, y -> y.money(), 0xBF000000);
        everyPowerOfTwo();
    }

    private static void everyPowerOfTwo() {
        for (int units = 1; units <= 256; units *= 2) {
            for (int price = 1; price <= 128; price *= 2) {
                TidegateBourse x = new TidegateBourse();
                x.sell(0, units, price);
                money(x, units * price);
                x.sell(0, 1, 1);
                money(x, units * price + 1);
                TidegateBourse below = new TidegateBourse();
                below.price(0, price + 1);
                below.sell(0, units, 1);
                below.pass(1);
                money(below, -units * price);
            }
        }
    }

    /** A bourse with so much money in whole units, up to 18 million; nothing is sold for its next hour. */
    private static TidegateBourse worth(int wanted) {
        TidegateBourse x = new TidegateBourse();
        for (int hour = 0; hour < 24; hour++) {
            x.price(hour, 1);
        }
        int missing = wanted;
        if (wanted > 9000000) {
            for (int hour = 0; hour < 48; hour++) {
                x.sell(hour, 500, 200);
                x.sell(hour, 500, 200);
            }
            x.pass(48);
            missing -= 48 * 200000 - 48 * 1000;
        }
        sellAhead(x, missing);
        return x;
    }

    private static void sellAhead(TidegateBourse x, int wanted) {
        int hour = x.now() + 2;
        int missing = wanted;
        for (; missing >= 200000; missing -= 200000) {
            x.sell(hour, 500, 200);
            x.sell(hour, 500, 200);
            hour++;
        }
        for (; missing >= 200; missing -= units(missing) * 200) {
            x.sell(hour, units(missing), 200);
        }
        if (missing > 0) {
            x.sell(hour + 1, 1, missing);
        }
    }

    private static int units(int missing) {
        return Math.min(500, missing / 200);
    }

    private static void halvesAreHeldBelow2ToThe23() {
        Check.sentence("for what is too much times 0.5 besides");
        TidegateBourse x = worth(8388607);
        money(x, 8388607f);
        oneTooMuch(x);
        Check.call("money() of 2 to the 23 less a half", x, y -> y.money(), 0x4AFFFFFF);
        x.sell(x.now() + 47, 1, 1);
        Check.call("a half and one are rounded to even", x, y -> y.money(), Check.bits(8388608f));
        TidegateBourse above = worth(8388608);
        money(above, 8388608f);
        oneTooMuch(above);
        Check.call("a half above 2 to the 23 is lost", above, y -> y.money(), 0x4B000000);
        TidegateBourse odd = worth(8388609);
        oneTooMuch(odd);
        Check.call("a half above an odd one is rounded up", odd, y -> y.money(), 0x4B000002);
    }

    /** In the next hour, for which nothing is sold, one unit is made at a price of 1. */
    private static void oneTooMuch(TidegateBourse x) {
        x.turbine();
        x.gate(0, 1);
        x.tide(x.now() % 24, 8);
        x.price(x.now() % 24, 1);
        x.pass(1);
        Check.call("made of one unit", x, y -> y.made(y.now() - 1), 1);
    }

    private static void moneyAsItComes() {
        Check.sentence("it is added to the money, or taken from it, in this order: as it comes.");
        TidegateBourse x = worth(16777215);
        money(x, 16777215f);
        int next = x.now();
        x.sell(next, 1, 1);
        Check.call("money() of 2 to the 24", x, y -> y.money(), 0x4B800000);
        x.sell(next, 1, 1);
        x.sell(next, 1, 1);
        Check.call("two sales of 1, each lost", x, y -> y.money(), 0x4B800000);
        x.sell(next, 2, 1);
        Check.call("one sale of 2", x, y -> y.money(), 0x4B800001);
        x.sell(next, 1, 1);
        Check.call("a sale of 1, rounded to even", x, y -> y.money(), 0x4B800002);
        x.sell(next, 3, 1);
        Check.call("a sale of 3, rounded to even", x, y -> y.money(), 0x4B800004);
        x.price(next % 24, 1);
        x.pass(1);
        bought(x, next, 9);
        money(x, 16777224f - 9f);
    }

    /** Hours of dear buying: a float has no odd numbers that far down, so each step is rounded by itself. */
    private static void moneyFarBelow0() {
        Check.sentence("taken from it, in this order: as it comes.");
        TidegateBourse x = new TidegateBourse();
        for (int hour = 0; hour < 24; hour++) {
            x.price(hour, 199 - hour % 3);
        }
        float money = 0f;
        for (int day = 0; day < 5; day++) {
            int first = x.now();
            for (int hour = first; hour < first + 45; hour++) {
                x.sell(hour, 500, 1);
                x.sell(hour, 499, 1);
                money = money + 500f + 499f;
            }
            money(x, money);
            x.pass(45);
            for (int hour = first; hour < first + 45; hour++) {
                money = money - 999f * (199 - hour % 24 % 3);
            }
            money(x, money);
        }
        Check.due("money is below -2 to the 25", money < -33554432f, true);
    }

    private static void noSuchTurbineOrHour() {
        Check.sentence("IndexOutOfBoundsException: there is no such turbine, hour of the day, or hour.");
        for (int wrong : new int[] {-1, -24, -48, 48, 548, 1000, DEEP, DEEP + 1, DEEP + 47, FAR, FAR - 47}) {
            for (int next : new int[] {0, 7}) {
                TidegateBourse x = Check.at(next);
                x.turbine();
                Check.call("tide(" + wrong + ")", x, y -> y.tide(wrong, 0), Check.INDEX);
                Check.call("price(" + wrong + ")", x, y -> y.price(wrong, 1), Check.INDEX);
                Check.call("gate(" + wrong + ")", x, y -> y.gate(wrong, 0), Check.INDEX);
                Check.call("repair(" + wrong + ")", x, y -> y.repair(wrong), Check.INDEX);
                Check.call("made(" + wrong + ")", x, y -> y.made(wrong), Check.INDEX);
                Check.call("madeAnew(" + wrong + ")", x, y -> y.madeAnew(wrong), Check.INDEX);
                Check.call("bought(" + wrong + ")", x, y -> y.bought(wrong), Check.INDEX);
                Check.call("head(" + wrong + ")", x, y -> y.head(wrong), Check.INDEX);
                Check.call("about(" + wrong + ")", x, y -> y.about(wrong, 0), Check.INDEX);
                int far = wrong == 48 && next > 0 ? 55 : wrong;
                Check.call("sold(" + far + ")", x, y -> y.sold(far), Check.INDEX);
                Check.call("sell(" + far + ")", x, y -> y.sell(far, 1, 1), Check.INDEX);
            }
        }
    }

    private static void anotherArgumentIsOutOfRange() {
        Check.sentence("IllegalArgumentException: another argument is out of its range.");
        for (int wrong : new int[] {-101, -1000000, 1001, 1000000, FAR, DEEP}) {
            TidegateBourse x = makes105();
            Check.call("tide(0, " + wrong + ")", x, y -> y.tide(0, wrong), Check.ARGUMENT);
            Check.call("price(0, " + wrong + ")", x, y -> y.price(0, wrong), Check.ARGUMENT);
            Check.call("wind(" + wrong + ")", x, y -> y.wind(wrong), Check.ARGUMENT);
            Check.call("gate(0, " + wrong + ")", x, y -> y.gate(0, wrong), Check.ARGUMENT);
            Check.call("run(" + wrong + ")", x, y -> y.run(wrong), Check.ARGUMENT);
            Check.call("limit(" + wrong + ")", x, y -> y.limit(wrong), Check.ARGUMENT);
            Check.call("sell(0, " + wrong + ", 1)", x, y -> y.sell(0, wrong, 1), Check.ARGUMENT);
            Check.call("sell(0, 1, " + wrong + ")", x, y -> y.sell(0, 1, wrong), Check.ARGUMENT);
            Check.call("sell(0, " + wrong + ", " + wrong + ")", x, y -> y.sell(0, wrong, wrong), Check.ARGUMENT);
            Check.call("pass(" + wrong + ")", x, y -> y.pass(wrong), Check.ARGUMENT);
            Check.call("about(0, " + wrong + ")", x, y -> y.about(0, wrong), Check.ARGUMENT);
            Check.call("now() behind them", x, y -> y.now(), 0);
        }
    }

    /** Hours 0 and 2 are full; two hours have gone by. */
    private static TidegateBourse fullHours() {
        TidegateBourse x = makes105();
        for (int hour = 0; hour <= 2; hour += 2) {
            x.sell(hour, 500, 200);
            x.sell(hour, 500, 200);
        }
        x.pass(2);
        x.repair(0);
        x.run(101);
        return x;
    }

    private static TidegateBourse atTheEnd() {
        TidegateBourse x = fullHours();
        Check.passTo(x, 500);
        x.run(101);
        return x;
    }

    private static void theFirstNamedIsThrown() {
        Check.sentence("If several apply, the one that is named first in the throws clause is thrown");
        Supplier<TidegateBourse> full = EdgesOfMarketTest::fullHours;
        Check.refused("tide(24, 101)", full, y -> y.tide(24, 101), Check.INDEX);
        Check.refused("price(-1, 0)", full, y -> y.price(-1, 0), Check.INDEX);
        Check.refused("gate(1, 8)", full, y -> y.gate(1, 8), Check.INDEX);
        Check.refused("about(1, 3)", full, y -> y.about(1, 3), Check.INDEX);
        Check.refused("sell of a full hour that has gone by", full, y -> y.sell(0, 1, 1), Check.INDEX);
        Check.refused("sell(50, 0, 1)", full, y -> y.sell(50, 0, 1), Check.INDEX);
        Check.refused("sell(50, 1, 0)", full, y -> y.sell(50, 1, 0), Check.INDEX);
        Check.refused("sell(1, 501, 201)", full, y -> y.sell(1, 501, 201), Check.INDEX);
        Check.refused("sell(2, 0, 1), full", full, y -> y.sell(2, 0, 1), Check.ARGUMENT);
        Check.refused("sell(2, 501, 1), full", full, y -> y.sell(2, 501, 1), Check.ARGUMENT);
        Check.refused("sell(2, 1, 201), full", full, y -> y.sell(2, 1, 201), Check.ARGUMENT);
        Check.refused("sell(2, 1, 200), full", full, y -> y.sell(2, 1, 200), Check.STATE);
        Supplier<TidegateBourse> end = EdgesOfMarketTest::atTheEnd;
        Check.refused("pass(49) at 500", end, y -> y.pass(49), Check.ARGUMENT);
        Check.refused("pass(0) at 500", end, y -> y.pass(0), Check.ARGUMENT);
        Check.refused("pass(far) at 500", end, y -> y.pass(FAR), Check.ARGUMENT);
        Check.refused("pass(1) at 500", end, y -> y.pass(1), Check.STATE);
        Check.refused("pass(48) at 500", end, y -> y.pass(48), Check.STATE);
    }

    private static void refusedCallsChangeNothing() {
        Check.sentence("a call that throws changes nothing.");
        TidegateBourse quiet = fullHours();
        TidegateBourse tried = fullHours();
        for (int round = 0; round < 12; round++) {
            int hours = 1 + round;
            Check.call("pass as without refused calls", tried, y -> y.pass(hours), quiet.pass(hours));
            quiet.run(94 + round);
            tried.run(94 + round);
            refusedAll(tried);
        }
        Check.due("all behind many refused calls", Check.trace(tried), Check.trace(quiet));
    }

    private static void refusedAll(TidegateBourse x) {
        int next = x.now();
        Check.call("tide(0, 101)", x, y -> y.tide(0, 101), Check.ARGUMENT);
        Check.call("price(0, 201)", x, y -> y.price(0, 201), Check.ARGUMENT);
        Check.call("wind(21)", x, y -> y.wind(21), Check.ARGUMENT);
        Check.call("gate(0, 8)", x, y -> y.gate(0, 8), Check.ARGUMENT);
        Check.call("repair(1)", x, y -> y.repair(1), Check.INDEX);
        Check.call("run(1001)", x, y -> y.run(1001), Check.ARGUMENT);
        Check.call("limit(-1)", x, y -> y.limit(-1), Check.ARGUMENT);
        Check.call("sell(next, 1, 201)", x, y -> y.sell(next, 1, 201), Check.ARGUMENT);
        Check.call("sell(next and 48)", x, y -> y.sell(next + 48, 1, 1), Check.INDEX);
        Check.call("pass(49)", x, y -> y.pass(49), Check.ARGUMENT);
    }
}
