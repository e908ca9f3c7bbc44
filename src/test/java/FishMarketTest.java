/** Promises 8 to 11. */
public final class FishMarketTest {
    private static final int FAR = Integer.MAX_VALUE;
    private static final int DEEP = Integer.MIN_VALUE;

    public static void main(String[] args) {
        promise8Run();
        promise9Limit();
        promise10Sell();
        promise11Pass();
        Check.end();
    }

    /** One turbine that makes something in each hour. */
    private static TidegateBourse working() {
        TidegateBourse x = new TidegateBourse();
        x.turbine();
        x.gate(0, 4);
        for (int hour = 0; hour < 24; hour++) {
            x.tide(hour, 60);
        }
        return x;
    }

    private static TidegateBourse soldAhead() {
        TidegateBourse x = working();
        x.sell(3, 100, 7);
        x.sell(40, 500, 9);
        x.sell(40, 450, 9);
        x.pass(2);
        x.run(200);
        return x;
    }

    private static void promise8Run() {
        TidegateBourse x = working();
        Check.call("run(100)", x, y -> y.run(100), false);
        Check.call("run(101)", x, y -> y.run(101), true);
        Check.call("run(1000)", x, y -> y.run(1000), true);
        Check.call("told fish close nothing yet", x, y -> y.closed(), 0);
        x.pass(4);
        int[] made = {0, 0, 0, 30};
        for (int hour = 0; hour < made.length; hour++) {
            int asked = hour;
            Check.call("made(" + hour + ") by fish", x, y -> y.made(asked), made[hour]);
            Check.call("madeAnew(" + hour + ") by fish", x, y -> y.madeAnew(asked), made[hour]);
        }
        Check.call("no wear behind closed gates", x, y -> y.about(0, 1), 4);
        Check.call("the one told last counts", x, y -> y.run(1000), true);
        Check.call("run(0)", x, y -> y.run(0), false);
        x.pass(1);
        Check.call("made with few fish", x, y -> y.made(4), 60 * 4 * 996 / 8000);
        x.run(500);
        x.pass(1);
        Check.call("closed behind a run", x, y -> y.closed(), 2);
        x.pass(1);
        x.run(500);
        Check.call("closed by the run that went by", x, y -> y.closed(), 1);
        x.pass(1);
        Check.call("closed behind a second run", x, y -> y.closed(), 2);
        x.pass(2);
        Check.call("closed no more", x, y -> y.closed(), 0);
        Check.call("made in the last closed hour", x, y -> y.made(9), 0);
        Check.call("found anew in the last closed hour", x, y -> y.madeAnew(9), 0);
        x.pass(1);
        Check.call("made in the first open hour", x, y -> y.made(10), 60 * 4 * 992 / 8000);
        for (int fish : new int[] {-1, 1001, FAR, DEEP}) {
            Check.refused("run(" + fish + ")", FishMarketTest::soldAhead, y -> y.run(fish), Check.ARGUMENT);
        }
    }

    private static void promise9Limit() {
        TidegateBourse x = working();
        Check.call("limit(0)", x, y -> y.limit(0), 100);
        Check.call("run(0) at limit 0", x, y -> y.run(0), false);
        x.pass(1);
        Check.call("0 fish are not above 0", x, y -> y.made(0), 30);
        Check.call("run(1) at limit 0", x, y -> y.run(1), true);
        Check.call("limit(1000)", x, y -> y.limit(1000), 0);
        x.pass(1);
        Check.call("the limit as it is when the hour goes by", x, y -> y.closed(), 0);
        Check.call("run(1000) at limit 1000", x, y -> y.run(1000), false);
        Check.call("limit(999)", x, y -> y.limit(999), 1000);
        x.pass(1);
        Check.call("a limit that was lowered closes", x, y -> y.closed(), 2);
        Check.call("limit(1000) again", x, y -> y.limit(1000), 999);
        Check.call("a limit that is raised late opens nothing", x, y -> y.closed(), 2);
        Check.call("made(2)", x, y -> y.made(2), 0);
        Check.call("madeAnew(2)", x, y -> y.madeAnew(2), 0);
        for (int fish : new int[] {-1, 1001, FAR, DEEP}) {
            Check.refused("limit(" + fish + ")", FishMarketTest::soldAhead, y -> y.limit(fish), Check.ARGUMENT);
        }
    }

    private static void promise10Sell() {
        TidegateBourse x = new TidegateBourse();
        Check.call("sell(0, 1, 1)", x, y -> y.sell(0, 1, 1), 1);
        Check.call("sell(0, 500, 200)", x, y -> y.sell(0, 500, 200), 501);
        Check.call("sell(0, 499, 3)", x, y -> y.sell(0, 499, 3), 1000);
        Check.call("money() at once", x, y -> y.money(), Check.bits(1f + 100000f + 1497f));
        Check.call("sell(0, 1, 1) above 1000", x, y -> y.sell(0, 1, 1), Check.STATE);
        Check.call("sell(47, 2, 1)", x, y -> y.sell(47, 2, 1), 2);
        Check.call("sell(48, 2, 1)", x, y -> y.sell(48, 2, 1), Check.INDEX);
        x.pass(1);
        Check.call("sell(48, 2, 1) later", x, y -> y.sell(48, 2, 1), 2);
        Check.call("sell of an hour gone by", x, y -> y.sell(0, 1, 1), Check.INDEX);
        for (int hour : new int[] {-1, 0, 1, 50, FAR, DEEP}) {
            Check.refused("sell(" + hour + ", 1, 1)", FishMarketTest::soldAhead, y -> y.sell(hour, 1, 1),
                    Check.INDEX);
            Check.refused("sell(" + hour + ", 0, 0)", FishMarketTest::soldAhead, y -> y.sell(hour, 0, 0),
                    Check.INDEX);
        }
        for (int units : new int[] {0, -1, 501, FAR, DEEP}) {
            Check.refused("sell(40, " + units + ", 1)", FishMarketTest::soldAhead, y -> y.sell(40, units, 1),
                    Check.ARGUMENT);
        }
        for (int price : new int[] {0, -1, 201, FAR, DEEP}) {
            Check.refused("sell(40, 500, " + price + ")", FishMarketTest::soldAhead, y -> y.sell(40, 500, price),
                    Check.ARGUMENT);
        }
        Check.refused("sell(40, 51, 1)", FishMarketTest::soldAhead, y -> y.sell(40, 51, 1), Check.STATE);
        Check.call("sell(40, 50, 1)", soldAhead(), y -> y.sell(40, 50, 1), 1000);
        Check.call("sell(49, 500, 200)", soldAhead(), y -> y.sell(49, 500, 200), 500);
    }

    private static void promise11Pass() {
        TidegateBourse x = new TidegateBourse();
        for (int hour = 48; hour <= 480; hour += 48) {
            Check.call("pass(48)", x, y -> y.pass(48), hour);
        }
        Check.call("pass(19)", x, y -> y.pass(19), 499);
        Check.call("pass(2) above 500", x, y -> y.pass(2), Check.STATE);
        Check.call("pass(1) to 500", x, y -> y.pass(1), 500);
        Check.call("pass(1) above 500", x, y -> y.pass(1), Check.STATE);
        Check.call("pass(49) at 500", x, y -> y.pass(49), Check.ARGUMENT);
        Check.call("sell(547, 1, 1) at 500", x, y -> y.sell(547, 1, 1), 1);
        Check.call("sell(548, 1, 1) at 500", x, y -> y.sell(548, 1, 1), Check.INDEX);
        Check.call("made(499)", x, y -> y.made(499), 0);
        Check.call("madeAnew(499)", x, y -> y.madeAnew(499), 0);
        for (int hours : new int[] {0, -1, 49, FAR, DEEP}) {
            Check.refused("pass(" + hours + ")", FishMarketTest::soldAhead, y -> y.pass(hours), Check.ARGUMENT);
        }
        Check.refused("pass(25) at 476", () -> {
            TidegateBourse late = working();
            for (int days = 0; days < 9; days++) {
                late.pass(48);
            }
            late.pass(44);
            return late;
        }, y -> y.pass(25), Check.STATE);
        hoursAreOneByOne();
    }

    private static void hoursAreOneByOne() {
        TidegateBourse atOnce = soldAhead();
        TidegateBourse oneByOne = soldAhead();
        atOnce.pass(48);
        for (int hour = 0; hour < 48; hour++) {
            oneByOne.pass(1);
        }
        Check.due("pass(48) against 48 times pass(1)", Check.trace(atOnce), Check.trace(oneByOne));
    }
}
