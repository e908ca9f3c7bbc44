import java.util.List;

/** Each sentence of the 20 promises that names an edge, with a test of its own. */
public final class EdgesOfPromisesTest {
    private static final int FAR = Integer.MAX_VALUE;
    private static final int DEEP = Integer.MIN_VALUE;

    private interface Hourly {
        int of(TidegateBourse x, int hour);
    }

    public static void main(String[] args) {
        newObject();
        valuesBefore();
        noMoreThanFourTurbines();
        wearThatItHad();
        whetherAboveTheLimit();
        unitsPerSale();
        priceOfASale();
        noMoreThan1000ForAnHour();
        hoursThatPass();
        neverAbove500();
        questionsOfHoursGoneBy();
        soldOfAnyHour();
        madeKeepsWhatWasMade();
        foundAnewFromTheHour0();
        foundAnewAheadOfAnyHour();
        asManyCallsAsThereAre();
        whatOfATurbine();
        closedHours();
        Check.end();
    }

    private static TidegateBourse tidal() {
        TidegateBourse x = new TidegateBourse();
        for (int hour = 0; hour < 24; hour++) {
            x.tide(hour, hour * 17 % 201 - 100);
        }
        return x;
    }

    private static void newObject() {
        Check.sentence("Begins in the hour 0, without turbines.");
        Check.call("now()", new TidegateBourse(), y -> y.now(), 0);
        Check.call("pass(48)", new TidegateBourse(), y -> y.pass(48), 48);
        for (int turbine = -1; turbine <= 4; turbine++) {
            int number = turbine;
            Check.refused("gate", TidegateBourse::new, y -> y.gate(number, 0), Check.INDEX);
            Check.refused("repair", TidegateBourse::new, y -> y.repair(number), Check.INDEX);
            Check.refused("about", TidegateBourse::new, y -> y.about(number, 0), Check.INDEX);
        }
        Check.call("turbine()", new TidegateBourse(), y -> y.turbine(), 0);
        List<String> ahead = Check.trace(new TidegateBourse());
        TidegateBourse one = tidal();
        one.turbine();
        one.gate(0, 7);
        one.sell(0, 9, 9);
        one.limit(7);
        one.pass(9);
        Check.due("a new object beside another one", Check.trace(new TidegateBourse()), ahead);
        Check.call("turbine() of a second one", new TidegateBourse(), y -> y.turbine(), 0);
        Check.call("limit of a second one", new TidegateBourse(), y -> y.limit(0), 100);
        Check.call("money() of a second one", new TidegateBourse(), y -> y.money(), 0);
    }

    private static void valuesBefore() {
        Check.sentence("Returns the level before. Returns the price before. Returns the wind before. "
                + "Returns the gate before. Returns the limit before.");
        TidegateBourse x = new TidegateBourse();
        x.turbine();
        Check.call("tide(7, 0)", x, y -> y.tide(7, 0), 0);
        Check.call("tide(7, -1)", x, y -> y.tide(7, -1), 0);
        Check.call("tide(7, -1) again", x, y -> y.tide(7, -1), -1);
        Check.call("price(7, 10)", x, y -> y.price(7, 10), 10);
        Check.call("price(7, 11)", x, y -> y.price(7, 11), 10);
        Check.call("price(7, 11) again", x, y -> y.price(7, 11), 11);
        Check.call("wind(-1)", x, y -> y.wind(-1), 0);
        Check.call("wind(-1) again", x, y -> y.wind(-1), -1);
        Check.call("gate(0, 1)", x, y -> y.gate(0, 1), 0);
        Check.call("gate(0, 1) again", x, y -> y.gate(0, 1), 1);
        Check.call("limit(0)", x, y -> y.limit(0), 100);
        Check.call("limit(1000)", x, y -> y.limit(1000), 0);
        Check.call("limit(1000) again", x, y -> y.limit(1000), 1000);
        x.pass(48);
        Check.call("tide(7, 0) later", x, y -> y.tide(7, 0), -1);
        Check.call("price(7, 1) later", x, y -> y.price(7, 1), 11);
        Check.call("wind(0) later", x, y -> y.wind(0), -1);
        Check.call("gate(0, 0) later", x, y -> y.gate(0, 0), 1);
        Check.call("limit(5) later", x, y -> y.limit(5), 1000);
    }

    private static void noMoreThanFourTurbines() {
        Check.sentence("Builds a turbine; returns its number. @throws IllegalStateException if there are 4");
        for (int hour : new int[] {0, 1, 499, 500}) {
            TidegateBourse x = Check.at(hour);
            for (int number = 0; number < 4; number++) {
                Check.call("turbine() at " + hour, x, y -> y.turbine(), number);
            }
            Check.call("a fifth at " + hour, x, y -> y.turbine(), Check.STATE);
            Check.call("a sixth at " + hour, x, y -> y.turbine(), Check.STATE);
            Check.call("about(3, 0)", x, y -> y.about(3, 0), 0);
            Check.call("about(4, 0)", x, y -> y.about(4, 0), Check.INDEX);
        }
    }

    private static void wearThatItHad() {
        Check.sentence("Repairs a turbine. Returns the wear that it had.");
        int[][] due = {{0, 0}, {1, 7}, {142, 994}, {143, 1000}, {144, 1000}, {500, 1000}};
        for (int[] hours : due) {
            TidegateBourse x = new TidegateBourse();
            x.turbine();
            x.turbine();
            x.gate(1, 7);
            Check.passTo(x, hours[0]);
            Check.call("repair(1) at " + hours[0], x, y -> y.repair(1), hours[1]);
            Check.call("repair(1) again", x, y -> y.repair(1), 0);
            Check.call("repair(0)", x, y -> y.repair(0), 0);
            Check.call("repair(2)", x, y -> y.repair(2), Check.INDEX);
        }
    }

    private static void whetherAboveTheLimit() {
        Check.sentence("Tells fish for the next hour. Returns whether they are above the limit.");
        int[][] due = {{100, 99, 0}, {100, 100, 0}, {100, 101, 1}, {0, 0, 0}, {0, 1, 1}, {0, 1000, 1}, {999, 999, 0},
            {999, 1000, 1}, {1000, 1000, 0}};
        for (int[] fish : due) {
            TidegateBourse x = new TidegateBourse();
            x.limit(fish[0]);
            Check.call("run(" + fish[1] + ") at " + fish[0], x, y -> y.run(fish[1]), fish[2] == 1);
        }
        for (int fish : new int[] {-1, 1001, FAR, DEEP}) {
            Check.refused("run(" + fish + ")", TidegateBourse::new, y -> y.run(fish), Check.ARGUMENT);
            Check.refused("limit(" + fish + ")", TidegateBourse::new, y -> y.limit(fish), Check.ARGUMENT);
        }
        Check.call("run(101) at 500", Check.at(500), y -> y.run(101), true);
    }

    private static void unitsPerSale() {
        Check.sentence("units: 1 to 500");
        Check.call("sell(0, 1, 1)", new TidegateBourse(), y -> y.sell(0, 1, 1), 1);
        Check.call("sell(0, 500, 1)", new TidegateBourse(), y -> y.sell(0, 500, 1), 500);
        for (int units : new int[] {DEEP, -500, -1, 0, 501, 1000, FAR}) {
            Check.refused("sell(0, " + units + ", 1)", TidegateBourse::new, y -> y.sell(0, units, 1), Check.ARGUMENT);
        }
    }

    private static void priceOfASale() {
        Check.sentence("price: 1 to 200");
        Check.call("sell(0, 2, 1)", new TidegateBourse(), y -> y.sell(0, 2, 1), 2);
        Check.call("sell(0, 2, 200)", new TidegateBourse(), y -> y.sell(0, 2, 200), 2);
        for (int price : new int[] {DEEP, -200, -1, 0, 201, FAR}) {
            Check.refused("sell(0, 1, " + price + ")", TidegateBourse::new, y -> y.sell(0, 1, price), Check.ARGUMENT);
        }
    }

    private static void noMoreThan1000ForAnHour() {
        Check.sentence("Returns how many units are sold for it then. Throws IllegalStateException if more than 1000 "
                + "would be sold for it");
        for (int hour : new int[] {0, 24, 47}) {
            TidegateBourse x = new TidegateBourse();
            Check.call("sell of 500", x, y -> y.sell(hour, 500, 1), 500);
            Check.call("sell of 499", x, y -> y.sell(hour, 499, 1), 999);
            Check.call("sell of 2, above 1000", x, y -> y.sell(hour, 2, 1), Check.STATE);
            Check.call("sell of 500, above 1000", x, y -> y.sell(hour, 500, 1), Check.STATE);
            Check.call("sold behind refused ones", x, y -> y.sold(hour), 999);
            Check.call("sell of 1, to 1000", x, y -> y.sell(hour, 1, 1), 1000);
            Check.call("sell of 1, above 1000", x, y -> y.sell(hour, 1, 1), Check.STATE);
            Check.call("sold of a full hour", x, y -> y.sold(hour), 1000);
            Check.call("money() of 1000", x, y -> y.money(), Check.bits(1000f));
            Check.call("sell of another hour", x, y -> y.sell(1, 500, 1), 500);
        }
        TidegateBourse last = Check.at(500);
        last.sell(547, 500, 1);
        Check.call("sell to 1000 of the last hour", last, y -> y.sell(547, 500, 1), 1000);
        Check.call("sell above 1000 of the last hour", last, y -> y.sell(547, 1, 1), Check.STATE);
    }

    private static void hoursThatPass() {
        Check.sentence("hours: 1 to 48. Returns the next hour.");
        Check.call("pass(1)", Check.at(3), y -> y.pass(1), 4);
        Check.call("pass(48)", Check.at(3), y -> y.pass(48), 51);
        for (int hours : new int[] {DEEP, -48, -1, 0, 49, 500, FAR, FAR - 3}) {
            Check.refused("pass(" + hours + ")", () -> Check.at(3), y -> y.pass(hours), Check.ARGUMENT);
        }
    }

    private static void neverAbove500() {
        Check.sentence("Throws IllegalStateException if it would be above 500");
        int[][] due = {{452, 48, 500}, {453, 48, -1}, {453, 47, 500}, {499, 1, 500}, {499, 2, -1}, {499, 48, -1},
            {500, 1, -1}, {500, 48, -1}, {451, 48, 499}};
        for (int[] hours : due) {
            String what = "pass(" + hours[1] + ") at " + hours[0];
            if (hours[2] > 0) {
                Check.call(what, Check.at(hours[0]), y -> y.pass(hours[1]), hours[2]);
            } else {
                Check.refused(what, () -> Check.at(hours[0]), y -> y.pass(hours[1]), Check.STATE);
            }
        }
        TidegateBourse x = Check.at(480);
        x.sell(480, 5, 1);
        x.run(101);
        Check.call("pass(21) at 480", x, y -> y.pass(21), Check.STATE);
        Check.call("no hour of it went by", x, y -> y.now(), 480);
        Check.call("nothing was bought", x, y -> y.money(), Check.bits(5f));
        Check.call("no gate was closed", x, y -> y.closed(), 0);
        Check.call("head(480)", x, y -> y.head(480), Check.INDEX);
        Check.call("pass(20) at 480", x, y -> y.pass(20), 500);
    }

    private static void questionsOfHoursGoneBy() {
        Check.sentence("Throws IndexOutOfBoundsException as told, if it has not gone by");
        Hourly[] questions = {(y, hour) -> y.made(hour), (y, hour) -> y.madeAnew(hour), (y, hour) -> y.bought(hour),
            (y, hour) -> y.head(hour)};
        for (int number = 0; number < questions.length; number++) {
            Hourly question = questions[number];
            String name = "question " + number + " of ";
            for (int next : new int[] {0, 1, 24, 499, 500}) {
                TidegateBourse x = Check.at(next);
                for (int hour : new int[] {DEEP, -1, next, next + 1, next + 47, 500, FAR}) {
                    Check.call(name + hour + " at " + next, x, y -> question.of(y, hour), Check.INDEX);
                }
                for (int hour = 0; hour < next; hour += Math.max(1, next - 1)) {
                    int asked = hour;
                    Check.call(name + hour + " at " + next, x, y -> question.of(y, asked), 0);
                }
            }
        }
    }

    private static void soldOfAnyHour() {
        Check.sentence("hour: 0 to the next one and 47");
        for (int next : new int[] {0, 1, 24, 499, 500}) {
            TidegateBourse x = Check.at(next);
            x.sell(next + 47, 2, 1);
            for (int hour : new int[] {DEEP, -1, next + 48, next + 49, FAR, FAR - 47}) {
                Check.call("sold(" + hour + ") at " + next, x, y -> y.sold(hour), Check.INDEX);
            }
            Check.call("sold(0) at " + next, x, y -> y.sold(0), 0);
            Check.call("sold of the next one", x, y -> y.sold(next), 0);
            Check.call("sold of 46 ahead", x, y -> y.sold(next + 46), 0);
            Check.call("sold of 47 ahead", x, y -> y.sold(next + 47), 2);
        }
        TidegateBourse gone = new TidegateBourse();
        gone.sell(0, 500, 1);
        gone.sell(0, 500, 1);
        Check.passTo(gone, 500);
        Check.call("sold(0), long gone by", gone, y -> y.sold(0), 1000);
        Check.call("sold(1), long gone by", gone, y -> y.sold(1), 0);
    }

    private static void madeKeepsWhatWasMade() {
        Check.sentence("Returns what was made in an hour. Returns how many units were bought for an hour. "
                + "Returns the head of an hour that has gone by.");
        TidegateBourse x = tidal();
        x.turbine();
        x.gate(0, 7);
        x.sell(0, 100, 1);
        x.pass(1);
        for (int change = 0; change < 2; change++) {
            Check.call("made(0)", x, y -> y.made(0), 87);
            Check.call("madeAnew(0)", x, y -> y.madeAnew(0), 87);
            Check.call("bought(0)", x, y -> y.bought(0), 13);
            Check.call("head(0)", x, y -> y.head(0), 100);
            x.tide(0, 1);
            x.price(0, 1);
            x.wind(-7);
            x.gate(0, 0);
            x.repair(0);
            x.limit(0);
            x.run(1);
            x.turbine();
            x.gate(1, 7);
            Check.passTo(x, 500);
        }
    }

    private static void foundAnewFromTheHour0() {
        Check.sentence("Returns the same, found from heads, gates, repairs and runs as they were noted, from the hour "
                + "0 on.");
        for (int first = 0; first < 500; first += 50) {
            dueAnew(changedAllAlong(), first);
        }
    }

    /** At the hour 500, by some 330 calls: that leaves enough of 512 to ask for 50 hours. */
    private static TidegateBourse changedAllAlong() {
        TidegateBourse x = tidal();
        int hours = 0;
        for (int next = 0; next < 500; next += hours) {
            int hour = next;
            hours = Math.min(500 - hour, 1 + hour % 13);
            if (hour % 70 < 10) {
                Check.answer(x, y -> y.turbine());
            }
            Check.answer(x, y -> y.gate(hour % 4, hour * 5 % 8));
            x.wind(hour * 7 % 41 - 20);
            if (hour % 100 < 20) {
                Check.answer(x, y -> y.repair(hour % 4));
            }
            if (hour % 31 < 15) {
                x.run(90 + hour % 31);
            }
            x.pass(hours);
        }
        return x;
    }

    private static void dueAnew(TidegateBourse x, int first) {
        int most = 0;
        for (int hour = first; hour < first + 50; hour++) {
            int asked = hour;
            Check.call("madeAnew(" + hour + ")", x, y -> y.madeAnew(asked), x.made(hour));
            most = Math.max(most, x.made(hour));
        }
        Check.due("something was made", most > 20, true);
    }

    /** What is told for the next hour, repairs among it, does not show in an hour that has gone by. */
    private static void foundAnewAheadOfAnyHour() {
        Check.sentence("found from heads, gates, repairs and runs as they were noted");
        TidegateBourse x = tidal();
        x.turbine();
        x.gate(0, 7);
        x.repair(0);
        x.pass(6);
        Check.call("the last hour of repair", x, y -> y.madeAnew(4), 0);
        Check.call("the first hour behind it", x, y -> y.madeAnew(5), 15 * 7 * 1000 / 8000);
        x.repair(0);
        x.run(1000);
        x.gate(0, 1);
        x.wind(20);
        Check.call("madeAnew(5) ahead of the hour 6", x, y -> y.madeAnew(5), 15 * 7 * 1000 / 8000);
        x.pass(24);
        dueAnew(x, new int[] {6, 10, 11, 29});
    }

    private static void dueAnew(TidegateBourse x, int[] hours) {
        for (int hour : hours) {
            Check.call("madeAnew(" + hour + ")", x, y -> y.madeAnew(hour), x.made(hour));
        }
    }

    private static void asManyCallsAsThereAre() {
        Check.sentence("An object is used for at most 512 calls after it has been made");
        TidegateBourse x = tidal();
        for (int number = 0; number < 4; number++) {
            x.turbine();
            x.gate(number, 1 + number);
        }
        int calls = 24 + 8;
        for (int passes = 0; passes < 10; passes++) {
            x.pass(48);
            calls++;
        }
        x.pass(20);
        int due = x.made(499);
        for (calls += 2; calls < 512; calls++) {
            Check.call("madeAnew(499), call " + calls, x, y -> y.madeAnew(499), due);
        }
    }

    private static void whatOfATurbine() {
        Check.sentence("what: 0 its gate, 1 its wear, 2 for how many hours it is in repair, the next one with them");
        TidegateBourse x = tidal();
        x.turbine();
        x.turbine();
        x.gate(1, 7);
        x.pass(1);
        dueAbout(x, 0, new int[] {0, 0, 0});
        dueAbout(x, 1, new int[] {7, 9, 0});
        x.repair(1);
        for (int hours = 5; hours > 0; hours--) {
            dueAbout(x, 1, new int[] {7, 0, hours});
            x.pass(1);
        }
        dueAbout(x, 1, new int[] {7, 0, 0});
        x.pass(1);
        dueAbout(x, 1, new int[] {7, 7, 0});
        dueAbout(x, 0, new int[] {0, 0, 0});
        for (int what : new int[] {DEEP, -1, 3, FAR}) {
            Check.call("about(1, " + what + ")", x, y -> y.about(1, what), Check.ARGUMENT);
            Check.call("about(2, " + what + ")", x, y -> y.about(2, what), Check.INDEX);
            Check.call("about(-1, " + what + ")", x, y -> y.about(-1, what), Check.INDEX);
        }
    }

    private static void dueAbout(TidegateBourse x, int turbine, int[] due) {
        for (int what = 0; what < due.length; what++) {
            int asked = what;
            Check.call("about(" + turbine + ", " + what + ")", x, y -> y.about(turbine, asked), due[what]);
        }
    }

    private static void closedHours() {
        Check.sentence("Returns for how many hours the gates are closed by fish of hours that have gone by, the next "
                + "one with them.");
        TidegateBourse x = new TidegateBourse();
        dueClosed(x, 0);
        x.run(1000);
        dueClosed(x, 0);
        x.pass(1);
        dueClosed(x, 2);
        x.pass(1);
        dueClosed(x, 1);
        x.run(1000);
        dueClosed(x, 1);
        x.pass(1);
        dueClosed(x, 2);
        x.pass(2);
        dueClosed(x, 0);
        x.pass(48);
        dueClosed(x, 0);
    }

    private static void dueClosed(TidegateBourse x, int due) {
        Check.call("closed() at " + x.now(), x, y -> y.closed(), due);
    }
}
