/** Each sentence of the document's 'Terms' that names an edge, with a test of its own. */
public final class EdgesOfTermsTest {
    private static final int FAR = Integer.MAX_VALUE;
    private static final int DEEP = Integer.MIN_VALUE;

    public static void main(String[] args) {
        hoursAreCounted();
        tableOfTheDay();
        hoursOfTheDayComeAgain();
        windRange();
        headWithoutItsSign();
        turbinesAreNumbered();
        brokenWithAWearOf1000();
        repairTakesFiveHours();
        whatWorks();
        madeIsRoundedDown();
        wearByGateAndHead();
        fishAreToldForTheNextHour();
        fishAboveTheLimit();
        fishCloseThreeHours();
        Check.end();
    }

    /** Turbines with this gate, the same level in each hour of the day. */
    private static TidegateBourse steady(int turbines, int gate, int level) {
        TidegateBourse x = new TidegateBourse();
        for (int number = 0; number < turbines; number++) {
            x.turbine();
            x.gate(number, gate);
        }
        level(x, level);
        return x;
    }

    private static void level(TidegateBourse x, int level) {
        for (int hour = 0; hour < 24; hour++) {
            x.tide(hour, level);
        }
    }

    private static void made(TidegateBourse x, int hour, int due) {
        Check.call("made(" + hour + ")", x, y -> y.made(hour), due);
        Check.call("madeAnew(" + hour + ")", x, y -> y.madeAnew(hour), due);
    }

    private static void wear(TidegateBourse x, int turbine, int due) {
        Check.call("about(" + turbine + ", 1)", x, y -> y.about(turbine, 1), due);
    }

    private static void repairHours(TidegateBourse x, int due) {
        Check.call("about(0, 2)", x, y -> y.about(0, 2), due);
    }

    private static void closed(TidegateBourse x, int due) {
        Check.call("closed()", x, y -> y.closed(), due);
    }

    private static void hoursAreCounted() {
        Check.sentence("Hours are counted from 0; the next one is 0 at first.");
        TidegateBourse x = new TidegateBourse();
        Check.call("now()", x, y -> y.now(), 0);
        Check.call("sold(0)", x, y -> y.sold(0), 0);
        Check.call("sold(-1)", x, y -> y.sold(-1), Check.INDEX);
        Check.call("head(0)", x, y -> y.head(0), Check.INDEX);
        Check.call("pass(1)", x, y -> y.pass(1), 1);
        Check.call("head(0) gone by", x, y -> y.head(0), 0);
        Check.call("head(1)", x, y -> y.head(1), Check.INDEX);
    }

    private static void tableOfTheDay() {
        Check.sentence("A table has a level, -100 to 100, and a price, 1 to 200, for each of the 24 hours of a day, "
                + "0 and 10 at first.");
        TidegateBourse x = new TidegateBourse();
        for (int hour = 0; hour < 24; hour++) {
            levelsOf(x, hour);
            pricesOf(x, hour);
        }
        for (int hour : new int[] {-1, 24, FAR, DEEP}) {
            Check.call("tide(" + hour + ", 0)", x, y -> y.tide(hour, 0), Check.INDEX);
            Check.call("price(" + hour + ", 10)", x, y -> y.price(hour, 10), Check.INDEX);
        }
    }

    private static void levelsOf(TidegateBourse x, int hour) {
        Check.call("tide(" + hour + ", -100) at first", x, y -> y.tide(hour, -100), 0);
        Check.call("tide(" + hour + ", 100)", x, y -> y.tide(hour, 100), -100);
        Check.call("tide(" + hour + ", 101)", x, y -> y.tide(hour, 101), Check.ARGUMENT);
        Check.call("tide(" + hour + ", -101)", x, y -> y.tide(hour, -101), Check.ARGUMENT);
        Check.call("tide(" + hour + ", 0) behind refused ones", x, y -> y.tide(hour, 0), 100);
    }

    private static void pricesOf(TidegateBourse x, int hour) {
        Check.call("price(" + hour + ", 1) at first", x, y -> y.price(hour, 1), 10);
        Check.call("price(" + hour + ", 200)", x, y -> y.price(hour, 200), 1);
        Check.call("price(" + hour + ", 201)", x, y -> y.price(hour, 201), Check.ARGUMENT);
        Check.call("price(" + hour + ", 0)", x, y -> y.price(hour, 0), Check.ARGUMENT);
        Check.call("price(" + hour + ", 10) behind refused ones", x, y -> y.price(hour, 10), 200);
    }

    private static void hoursOfTheDayComeAgain() {
        Check.sentence("the level of its hour of the day");
        TidegateBourse x = new TidegateBourse();
        x.tide(0, 7);
        x.tide(19, -9);
        x.tide(23, 5);
        Check.passTo(x, 500);
        int[][] due = {{0, 7}, {1, 0}, {22, 0}, {23, 5}, {24, 7}, {25, 0}, {47, 5}, {48, 7}, {479, 5}, {480, 7},
            {481, 0}, {498, 0}, {499, 9}};
        for (int[] hour : due) {
            Check.call("head(" + hour[0] + ")", x, y -> y.head(hour[0]), hour[1]);
        }
    }

    private static void windRange() {
        Check.sentence("The wind is -20 to 20, 0 at first.");
        TidegateBourse x = new TidegateBourse();
        Check.call("wind(20) at first", x, y -> y.wind(20), 0);
        Check.call("wind(-20)", x, y -> y.wind(-20), 20);
        for (int wind : new int[] {-21, 21, FAR, DEEP}) {
            Check.call("wind(" + wind + ")", x, y -> y.wind(wind), Check.ARGUMENT);
        }
        Check.call("wind(0) behind refused ones", x, y -> y.wind(0), -20);
    }

    private static void headWithoutItsSign() {
        Check.sentence("The head of an hour is the level of its hour of the day and the wind, together, "
                + "without its sign.");
        int[][] due = {{100, 20, 120}, {-100, -20, 120}, {100, -20, 80}, {-100, 20, 80}, {20, -20, 0}, {-20, 20, 0},
            {19, -20, 1}, {-19, 20, 1}, {21, -20, 1}, {0, -1, 1}, {-1, 0, 1}, {0, 0, 0}};
        for (int[] hour : due) {
            TidegateBourse x = new TidegateBourse();
            x.tide(0, hour[0]);
            x.wind(hour[1]);
            x.pass(1);
            Check.call("head at level " + hour[0] + " and wind " + hour[1], x, y -> y.head(0), hour[2]);
        }
    }

    private static void turbinesAreNumbered() {
        Check.sentence("Turbines are numbered from 0, at most 4; a turbine has a gate, 0 to 7, 0 at first, and wear, "
                + "0 to 1000, 0 at first");
        TidegateBourse x = new TidegateBourse();
        for (int number = 0; number < 4; number++) {
            int turbine = number;
            Check.call("repair of the one to come", x, y -> y.repair(turbine), Check.INDEX);
            Check.call("turbine()", x, y -> y.turbine(), number);
            wear(x, number, 0);
            Check.call("gate 7 at first", x, y -> y.gate(turbine, 7), 0);
            Check.call("gate 8", x, y -> y.gate(turbine, 8), Check.ARGUMENT);
            Check.call("gate -1", x, y -> y.gate(turbine, -1), Check.ARGUMENT);
            Check.call("gate 0 behind refused ones", x, y -> y.gate(turbine, 0), 7);
        }
        Check.call("a fifth turbine()", x, y -> y.turbine(), Check.STATE);
        Check.call("about(4, 0) behind it", x, y -> y.about(4, 0), Check.INDEX);
        Check.call("gate(4, 0) behind it", x, y -> y.gate(4, 0), Check.INDEX);
        Check.call("repair(4) behind it", x, y -> y.repair(4), Check.INDEX);
    }

    private static void brokenWithAWearOf1000() {
        Check.sentence("with a wear of 1000 it is broken.");
        TidegateBourse x = steady(1, 7, 60);
        Check.passTo(x, 142);
        wear(x, 0, 994);
        x.gate(0, 5);
        x.pass(1);
        wear(x, 0, 999);
        x.gate(0, 1);
        x.pass(1);
        wear(x, 0, 1000);
        x.gate(0, 7);
        x.pass(48);
        wear(x, 0, 1000);
        made(x, 191, 0);
        Check.call("a gate of a broken one", x, y -> y.gate(0, 3), 7);
        Check.call("repair of a broken one", x, y -> y.repair(0), 1000);
        x.pass(6);
        made(x, 196, 0);
        made(x, 197, 22);
        wear(x, 0, 3);
        lowWearStillWorks();
    }

    private static void lowWearStillWorks() {
        TidegateBourse x = steady(1, 7, 60);
        Check.passTo(x, 140);
        wear(x, 0, 980);
        level(x, 100);
        x.wind(20);
        x.pass(2);
        made(x, 140, 2);
        made(x, 141, 1);
        wear(x, 0, 998);
    }

    private static void repairTakesFiveHours() {
        Check.sentence("To repair it makes its wear 0; it is in repair for the next 5 hours, also if it was.");
        TidegateBourse x = steady(1, 4, 60);
        x.pass(1);
        Check.call("repair(0)", x, y -> y.repair(0), 4);
        wear(x, 0, 0);
        repairHours(x, 5);
        Check.call("repair(0) at once again", x, y -> y.repair(0), 0);
        repairHours(x, 5);
        x.pass(4);
        repairHours(x, 1);
        made(x, 4, 0);
        Check.call("repair(0) in its last hour", x, y -> y.repair(0), 0);
        repairHours(x, 5);
        x.pass(5);
        repairHours(x, 0);
        made(x, 5, 0);
        made(x, 9, 0);
        wear(x, 0, 0);
        x.pass(1);
        made(x, 10, 30);
        repairHours(x, 0);
        Check.call("its gate stays", x, y -> y.about(0, 0), 4);
        repairAtBothEnds();
    }

    private static void repairAtBothEnds() {
        TidegateBourse x = steady(2, 4, 60);
        Check.call("repair(0) ahead of the hour 0", x, y -> y.repair(0), 0);
        repairHours(x, 5);
        Check.call("the other one is in no repair", x, y -> y.about(1, 2), 0);
        x.pass(6);
        made(x, 0, 30);
        made(x, 4, 60 * 4 * 984 / 8000);
        made(x, 5, 60 * 4 * 980 / 8000 + 30);
        Check.passTo(x, 499);
        x.repair(0);
        x.pass(1);
        repairHours(x, 4);
        Check.call("repair(0) at 500", x, y -> y.repair(0), 0);
        repairHours(x, 5);
        Check.call("madeAnew(499)", x, y -> y.madeAnew(499), x.made(499));
    }

    private static void whatWorks() {
        Check.sentence("A turbine works in an hour, if it is neither broken nor in repair, and the gates are not "
                + "closed.");
        TidegateBourse x = steady(2, 4, 60);
        x.repair(0);
        x.run(101);
        x.pass(6);
        int[] due = {0, 0, 0, 30, 29, 29 + 30};
        for (int hour = 0; hour < due.length; hour++) {
            made(x, hour, due[hour]);
        }
        wear(x, 0, 4);
        wear(x, 1, 12);
        repairIsLeftBehindClosedGates();
        builtBehindClosedGates();
    }

    private static void repairIsLeftBehindClosedGates() {
        TidegateBourse x = steady(1, 4, 60);
        x.repair(0);
        x.pass(4);
        x.run(101);
        x.pass(4);
        for (int hour = 0; hour < 7; hour++) {
            made(x, hour, 0);
        }
        made(x, 7, 30);
        wear(x, 0, 4);
    }

    private static void builtBehindClosedGates() {
        TidegateBourse x = steady(0, 0, 60);
        x.run(101);
        x.pass(1);
        x.turbine();
        x.gate(0, 4);
        x.pass(3);
        made(x, 1, 0);
        made(x, 2, 0);
        made(x, 3, 30);
        wear(x, 0, 4);
    }

    private static void madeIsRoundedDown() {
        Check.sentence("makes its head times its gate times what 1000 is above its wear, divided by 8000, "
                + "rounded down");
        TidegateBourse x = steady(1, 1, 8);
        x.pass(2);
        made(x, 0, 1);
        made(x, 1, 0);
        TidegateBourse few = steady(1, 1, 7);
        few.pass(1);
        made(few, 0, 0);
        TidegateBourse apart = steady(4, 1, 7);
        apart.pass(1);
        made(apart, 0, 0);
        TidegateBourse shut = steady(4, 0, 100);
        shut.pass(1);
        made(shut, 0, 0);
        TidegateBourse dry = steady(4, 7, 0);
        dry.pass(1);
        made(dry, 0, 0);
        TidegateBourse most = steady(4, 7, -100);
        most.wind(-20);
        most.pass(2);
        made(most, 0, 420);
        made(most, 1, 4 * 104);
        TidegateBourse none = steady(0, 0, 100);
        none.pass(1);
        made(none, 0, 0);
        nearlyOneMore();
    }

    /** 29 times 5 times 993 is 15 below 18 times 8000. */
    private static void nearlyOneMore() {
        TidegateBourse x = steady(1, 7, 60);
        x.pass(1);
        x.gate(0, 5);
        x.tide(1, 29);
        x.pass(1);
        made(x, 1, 17);
    }

    private static void wearByGateAndHead() {
        Check.sentence("then, if its gate is not 0, its wear is more by the gate, and by 2 more, if the head is above "
                + "60, at most 1000.");
        int[][] due = {{0, 0, 0}, {0, 100, 0}, {1, 0, 1}, {1, 60, 1}, {1, 61, 3}, {1, -60, 1}, {1, -61, 3},
            {7, 60, 7}, {7, 61, 9}, {7, 100, 9}};
        for (int[] hour : due) {
            TidegateBourse x = steady(1, hour[0], hour[1]);
            x.pass(1);
            wear(x, 0, hour[2]);
        }
        TidegateBourse windy = steady(1, 2, 60);
        windy.wind(1);
        windy.pass(1);
        wear(windy, 0, 4);
        wearEndsAt1000();
    }

    private static void wearEndsAt1000() {
        int[][] due = {{999, 7, 61}, {999, 1, 61}, {999, 2, 60}, {999, 1, 60}};
        for (int[] last : due) {
            TidegateBourse x = steady(1, 7, 61);
            Check.passTo(x, 111);
            wear(x, 0, last[0]);
            x.gate(0, last[1]);
            level(x, last[2]);
            x.pass(1);
            wear(x, 0, 1000);
        }
        TidegateBourse x = steady(1, 7, 61);
        Check.passTo(x, 111);
        x.gate(0, 0);
        x.pass(1);
        wear(x, 0, 999);
        made(x, 111, 0);
    }

    private static void fishAreToldForTheNextHour() {
        Check.sentence("Fish are told for the next hour, so many as were told last since the one ahead went by, none "
                + "if none were told.");
        TidegateBourse last = new TidegateBourse();
        last.run(1000);
        last.run(100);
        last.pass(1);
        closed(last, 0);
        last.run(100);
        last.run(101);
        last.pass(1);
        closed(last, 2);
        TidegateBourse once = new TidegateBourse();
        once.run(101);
        once.pass(3);
        closed(once, 0);
        once.pass(1);
        closed(once, 0);
        TidegateBourse kept = new TidegateBourse();
        kept.run(50);
        kept.pass(1);
        kept.limit(0);
        kept.pass(1);
        closed(kept, 0);
        fishAndRefusedCalls();
    }

    private static void fishAndRefusedCalls() {
        TidegateBourse x = new TidegateBourse();
        x.run(101);
        Check.call("run(1001)", x, y -> y.run(1001), Check.ARGUMENT);
        Check.call("run(-1)", x, y -> y.run(-1), Check.ARGUMENT);
        Check.call("limit(1001)", x, y -> y.limit(1001), Check.ARGUMENT);
        Check.call("pass(0)", x, y -> y.pass(0), Check.ARGUMENT);
        Check.call("pass(49)", x, y -> y.pass(49), Check.ARGUMENT);
        closed(x, 0);
        x.pass(1);
        closed(x, 2);
    }

    private static void fishAboveTheLimit() {
        Check.sentence("If they are above the limit, 100 at first, as it is when that hour goes by");
        int[][] due = {{100, 100, 0}, {101, 100, 2}, {0, 0, 0}, {1, 0, 2}, {1000, 1000, 0}, {1000, 999, 2},
            {999, 1000, 0}};
        for (int[] hour : due) {
            TidegateBourse x = new TidegateBourse();
            x.limit(hour[1]);
            Check.call("run(" + hour[0] + ")", x, y -> y.run(hour[0]), hour[2] > 0);
            x.pass(1);
            closed(x, hour[2]);
        }
        TidegateBourse lowered = new TidegateBourse();
        Check.call("run(100)", lowered, y -> y.run(100), false);
        lowered.limit(99);
        lowered.pass(1);
        closed(lowered, 2);
        TidegateBourse raised = new TidegateBourse();
        Check.call("run(101)", raised, y -> y.run(101), true);
        raised.limit(101);
        raised.pass(1);
        closed(raised, 0);
        raised.limit(0);
        raised.pass(1);
        closed(raised, 0);
    }

    private static void fishCloseThreeHours() {
        Check.sentence("the gates are closed in that hour and in the 2 behind it.");
        closedByRuns(new int[] {0}, new int[] {0, 0, 0, 30});
        closedByRuns(new int[] {1}, new int[] {30, 0, 0, 0, 29});
        closedByRuns(new int[] {0, 1}, new int[] {0, 0, 0, 0, 30});
        closedByRuns(new int[] {0, 2}, new int[] {0, 0, 0, 0, 0, 30});
        closedByRuns(new int[] {0, 3}, new int[] {0, 0, 0, 0, 0, 0, 30});
        closedByRuns(new int[] {0, 4}, new int[] {0, 0, 0, 30, 0, 0, 0, 29});
        TidegateBourse x = steady(1, 4, 60);
        x.run(101);
        x.pass(1);
        x.run(100);
        x.limit(1000);
        x.pass(1);
        closed(x, 1);
        x.pass(2);
        made(x, 2, 0);
        made(x, 3, 30);
        TidegateBourse late = steady(1, 4, 60);
        Check.passTo(late, 499);
        late.run(101);
        late.pass(1);
        made(late, 499, 0);
        closed(late, 2);
    }

    private static void closedByRuns(int[] runs, int[] due) {
        TidegateBourse x = steady(1, 4, 60);
        for (int run : runs) {
            Check.passTo(x, run);
            x.run(101);
        }
        Check.passTo(x, due.length);
        for (int hour = 0; hour < due.length; hour++) {
            made(x, hour, due[hour]);
        }
    }
}
