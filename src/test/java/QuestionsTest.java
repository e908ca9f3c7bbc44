/** Promises 12 to 20. */
public final class QuestionsTest {
    private static final int FAR = Integer.MAX_VALUE;
    private static final int DEEP = Integer.MIN_VALUE;

    public static void main(String[] args) {
        promise12Now();
        promise13Made();
        promise14MadeAnew();
        promise15Sold();
        promise16Bought();
        promise17Head();
        promise18About();
        promise19Closed();
        promise20Money();
        Check.end();
    }

    private static TidegateBourse working() {
        TidegateBourse x = new TidegateBourse();
        x.turbine();
        x.turbine();
        x.gate(0, 7);
        x.gate(1, 2);
        for (int hour = 0; hour < 24; hour++) {
            x.tide(hour, 100 - 8 * hour);
        }
        return x;
    }

    private static TidegateBourse threeHoursOn() {
        TidegateBourse x = working();
        x.sell(1, 100, 4);
        x.pass(3);
        return x;
    }

    private static void refusedHours(String name, Hourly question) {
        for (int hour : new int[] {-1, 3, 4, 499, 500, FAR, DEEP}) {
            Check.refused(name + "(" + hour + ")", QuestionsTest::threeHoursOn, y -> question.of(y, hour),
                    Check.INDEX);
        }
        for (int hour = 0; hour < 3; hour++) {
            TidegateBourse asked = threeHoursOn();
            question.of(asked, hour);
            Check.due(name + " changes nothing", Check.trace(asked), Check.trace(threeHoursOn()));
        }
    }

    private interface Hourly {
        int of(TidegateBourse x, int hour);
    }

    private static void promise12Now() {
        TidegateBourse x = new TidegateBourse();
        Check.call("now()", x, y -> y.now(), 0);
        x.pass(1);
        Check.call("now() at 1", x, y -> y.now(), 1);
        x.pass(48);
        Check.call("now() at 49", x, y -> y.now(), 49);
    }

    private static void promise13Made() {
        TidegateBourse x = threeHoursOn();
        Check.call("made(0)", x, y -> y.made(0), 87 + 25);
        Check.call("made(1)", x, y -> y.made(1), 92 * 7 * 991 / 8000 + 92 * 2 * 996 / 8000);
        Check.call("made(2)", x, y -> y.made(2), 84 * 7 * 982 / 8000 + 84 * 2 * 992 / 8000);
        x.gate(0, 0);
        x.tide(1, 0);
        Check.call("made(1) later", x, y -> y.made(1), 92 * 7 * 991 / 8000 + 92 * 2 * 996 / 8000);
        refusedHours("made", (y, hour) -> y.made(hour));
    }

    private static void promise14MadeAnew() {
        TidegateBourse x = working();
        x.pass(5);
        x.turbine();
        x.gate(2, 6);
        x.gate(0, 3);
        x.wind(-13);
        x.pass(4);
        x.repair(0);
        x.pass(2);
        x.repair(0);
        x.repair(2);
        x.run(101);
        x.pass(1);
        x.run(1000);
        x.limit(1000);
        x.pass(4);
        x.turbine();
        x.gate(3, 7);
        x.repair(3);
        x.limit(3);
        x.run(4);
        x.pass(48);
        x.gate(1, 0);
        x.pass(48);
        Check.call("made(14)", x, y -> y.made(14), x.madeAnew(14));
        int sum = 0;
        for (int hour = 0; hour < x.now(); hour++) {
            int asked = hour;
            Check.call("madeAnew(" + hour + ")", x, y -> y.madeAnew(asked), x.made(hour));
            sum += x.made(hour);
        }
        Check.due("something was made", sum > 1000, true);
        longestRun();
        refusedHours("madeAnew", (y, hour) -> y.madeAnew(hour));
    }

    private static void longestRun() {
        TidegateBourse x = working();
        for (int passes = 0; passes < 10; passes++) {
            x.pass(48);
            x.repair(passes % 2);
            x.gate(1, passes % 8);
        }
        x.pass(20);
        for (int hour = 471; hour < 500; hour++) {
            int asked = hour;
            Check.call("madeAnew(" + hour + ") to the end", x, y -> y.madeAnew(asked), x.made(hour));
        }
    }

    private static void promise15Sold() {
        TidegateBourse x = new TidegateBourse();
        x.sell(0, 5, 1);
        x.sell(47, 6, 1);
        x.sell(47, 7, 1);
        Check.call("sold(0)", x, y -> y.sold(0), 5);
        Check.call("sold(1)", x, y -> y.sold(1), 0);
        Check.call("sold(47)", x, y -> y.sold(47), 13);
        Check.call("sold(48)", x, y -> y.sold(48), Check.INDEX);
        x.pass(1);
        Check.call("sold(0), gone by", x, y -> y.sold(0), 5);
        Check.call("sold(48) an hour on", x, y -> y.sold(48), 0);
        for (int hour : new int[] {-1, 51, FAR, DEEP}) {
            Check.refused("sold(" + hour + ")", QuestionsTest::threeHoursOn, y -> y.sold(hour), Check.INDEX);
        }
        Check.call("sold(50)", threeHoursOn(), y -> y.sold(50), 0);
        TidegateBourse late = new TidegateBourse();
        for (int passes = 0; passes < 10; passes++) {
            late.pass(48);
        }
        late.pass(20);
        Check.call("sold(547) at 500", late, y -> y.sold(547), 0);
        Check.call("sold(548) at 500", late, y -> y.sold(548), Check.INDEX);
    }

    private static void promise16Bought() {
        TidegateBourse x = working();
        x.sell(0, 112, 1);
        x.sell(1, 102, 1);
        x.sell(2, 500, 1);
        x.sell(2, 500, 1);
        x.pass(4);
        Check.call("bought(0), all made", x, y -> y.bought(0), 0);
        Check.call("bought(1), one missing", x, y -> y.bought(1), 1);
        Check.call("bought(2)", x, y -> y.bought(2), 1000 - x.made(2));
        Check.call("bought(3), too much made", x, y -> y.bought(3), 0);
        refusedHours("bought", (y, hour) -> y.bought(hour));
    }

    private static void promise17Head() {
        TidegateBourse x = new TidegateBourse();
        x.tide(0, -100);
        x.tide(1, 20);
        x.wind(-20);
        x.pass(3);
        Check.call("head(0)", x, y -> y.head(0), 120);
        Check.call("head(1)", x, y -> y.head(1), 0);
        Check.call("head(2)", x, y -> y.head(2), 20);
        x.wind(5);
        x.tide(0, 3);
        Check.call("head(0) later", x, y -> y.head(0), 120);
        x.pass(22);
        Check.call("head(24)", x, y -> y.head(24), 8);
        refusedHours("head", (y, hour) -> y.head(hour));
    }

    private static void promise18About() {
        TidegateBourse x = threeHoursOn();
        Check.call("about(0, 0)", x, y -> y.about(0, 0), 7);
        Check.call("about(1, 0)", x, y -> y.about(1, 0), 2);
        Check.call("about(0, 1)", x, y -> y.about(0, 1), 27);
        Check.call("about(1, 1)", x, y -> y.about(1, 1), 12);
        Check.call("about(0, 2)", x, y -> y.about(0, 2), 0);
        x.repair(1);
        Check.call("about(1, 1) repaired", x, y -> y.about(1, 1), 0);
        for (int hours = 5; hours >= 0; hours--) {
            Check.call("about(1, 2)", x, y -> y.about(1, 2), hours);
            x.pass(1);
        }
        Check.call("about(1, 2) at the end", x, y -> y.about(1, 2), 0);
        for (int turbine : new int[] {-1, 2, 4, FAR, DEEP}) {
            Check.refused("about(" + turbine + ", 0)", QuestionsTest::threeHoursOn, y -> y.about(turbine, 0),
                    Check.INDEX);
            Check.refused("about(" + turbine + ", 3)", QuestionsTest::threeHoursOn, y -> y.about(turbine, 3),
                    Check.INDEX);
        }
        for (int what : new int[] {-1, 3, FAR, DEEP}) {
            Check.refused("about(0, " + what + ")", QuestionsTest::threeHoursOn, y -> y.about(0, what),
                    Check.ARGUMENT);
        }
    }

    private static void promise19Closed() {
        TidegateBourse x = new TidegateBourse();
        x.run(101);
        Check.call("closed() ahead of the run", x, y -> y.closed(), 0);
        int[] due = {2, 1, 0, 0};
        for (int hour = 0; hour < due.length; hour++) {
            x.pass(1);
            Check.call("closed() behind hour " + hour, x, y -> y.closed(), due[hour]);
        }
        x.run(101);
        x.pass(3);
        Check.call("closed() 3 hours on", x, y -> y.closed(), 0);
    }

    private static void promise20Money() {
        TidegateBourse x = working();
        Check.call("money() of none", x, y -> y.money(), 0);
        x.sell(0, 111, 3);
        Check.call("money() of a sale", x, y -> y.money(), Check.bits(333f));
        x.pass(1);
        Check.call("one too much, at half of 10", x, y -> y.money(), Check.bits(338f));
        x.price(1, 33);
        x.sell(1, 100, 1);
        x.pass(1);
        Check.call("one too much, at half of 33", x, y -> y.money(), Check.bits(454.5f));
        TidegateBourse poor = new TidegateBourse();
        poor.sell(0, 500, 1);
        poor.price(0, 200);
        poor.pass(1);
        Check.call("money() below 0", poor, y -> y.money(), Check.bits(500f - 100000f));
        TidegateBourse even = new TidegateBourse();
        even.sell(0, 7, 10);
        even.pass(1);
        Check.call("money() back at 0", even, y -> y.money(), 0);
        smallestMoney();
        moneyThatIsRounded();
    }

    private static void smallestMoney() {
        TidegateBourse x = new TidegateBourse();
        x.turbine();
        x.gate(0, 1);
        x.tide(0, 8);
        x.price(0, 1);
        x.pass(1);
        Check.call("made one unit", x, y -> y.made(0), 1);
        Check.call("half of a price of 1", x, y -> y.money(), Check.bits(0.5f));
        x.sell(1, 1, 1);
        x.price(1, 2);
        x.pass(1);
        Check.call("half of 1 below 0", x, y -> y.money(), Check.bits(-0.5f));
    }

    /** Above 2 to the 24 a float has no odd numbers: each step is rounded by itself. */
    private static void moneyThatIsRounded() {
        TidegateBourse x = new TidegateBourse();
        for (int hour = 0; hour < 24; hour++) {
            x.price(hour, 1);
        }
        float money = 0f;
        for (int round = 0; round < 2; round++) {
            money = sellAndBuyAllBack(x, money);
        }
        Check.due("money is above 2 to the 24", money > 16777216f, true);
        float before = money;
        for (int sale = 0; sale < 20; sale++) {
            x.sell(x.now(), 1, 1);
            money = money + 1f;
            dueMoney("money() of sales too small to count", x, money);
        }
        Check.due("each sale of 1 was rounded away", money == before, true);
        for (int sale = 0; sale < 20; sale++) {
            x.sell(x.now() + 1, 3, 1);
            money = money + 3f;
            dueMoney("money() of sales of 3", x, money);
        }
        Check.due("each sale of 3 was rounded", money == before + 60f, false);
        x.pass(1);
        dueMoney("money() of 20 bought", x, money - 20f);
    }

    private static float sellAndBuyAllBack(TidegateBourse x, float before) {
        float money = before;
        int first = x.now();
        for (int hour = first; hour < first + 48; hour++) {
            x.sell(hour, 500, 200);
            x.sell(hour, 500, 199);
            money = money + 100000f + 99500f;
        }
        dueMoney("money() of large sales", x, money);
        x.pass(48);
        for (int hour = 0; hour < 48; hour++) {
            money = money - 1000f;
        }
        dueMoney("money() of 1000 bought for each of 48 hours", x, money);
        return money;
    }

    private static void dueMoney(String what, TidegateBourse x, float money) {
        Check.call(what, x, y -> y.money(), Check.bits(money));
    }
}
