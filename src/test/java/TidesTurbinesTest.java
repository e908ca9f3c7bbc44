/** Promises 1 to 7. */
public final class TidesTurbinesTest {
    private static final int FAR = Integer.MAX_VALUE;
    private static final int DEEP = Integer.MIN_VALUE;

    public static void main(String[] args) {
        promise1NewObject();
        promise2Tide();
        promise3Price();
        promise4Wind();
        promise5Turbine();
        promise6Gate();
        promise7Repair();
        Check.end();
    }

    private static TidegateBourse lively() {
        TidegateBourse x = new TidegateBourse();
        x.turbine();
        x.turbine();
        x.gate(0, 7);
        x.gate(1, 4);
        x.tide(0, 77);
        x.tide(3, -40);
        x.price(4, 33);
        x.wind(9);
        x.sell(2, 20, 7);
        x.sell(5, 300, 3);
        x.pass(3);
        x.repair(1);
        x.run(101);
        return x;
    }

    private static void promise1NewObject() {
        TidegateBourse x = new TidegateBourse();
        Check.call("new now()", x, y -> y.now(), 0);
        Check.call("new closed()", x, y -> y.closed(), 0);
        Check.call("new money()", x, y -> y.money(), 0);
        Check.call("new about(0, 0)", x, y -> y.about(0, 0), Check.INDEX);
        Check.call("new gate(0, 0)", x, y -> y.gate(0, 0), Check.INDEX);
        Check.call("new made(0)", x, y -> y.made(0), Check.INDEX);
        for (int hour = 0; hour <= 47; hour++) {
            int asked = hour;
            Check.call("new sold(" + hour + ")", x, y -> y.sold(asked), 0);
        }
        for (int hour = 0; hour < 24; hour++) {
            int day = hour;
            Check.call("new tide(" + hour + ")", x, y -> y.tide(day, 1), 0);
            Check.call("new price(" + hour + ")", x, y -> y.price(day, 1), 10);
        }
        Check.call("new wind", x, y -> y.wind(1), 0);
        Check.call("new limit", x, y -> y.limit(1), 100);
        TidegateBourse other = new TidegateBourse();
        Check.call("objects share nothing", other, y -> y.tide(0, 0), 0);
    }

    private static void promise2Tide() {
        TidegateBourse x = new TidegateBourse();
        Check.call("tide(5, 100)", x, y -> y.tide(5, 100), 0);
        Check.call("tide(5, -100)", x, y -> y.tide(5, -100), 100);
        Check.call("tide(5, 7)", x, y -> y.tide(5, 7), -100);
        Check.call("tide(4, 1)", x, y -> y.tide(4, 1), 0);
        Check.call("tide(6, 1)", x, y -> y.tide(6, 1), 0);
        Check.call("tide(0, 2)", x, y -> y.tide(0, 2), 0);
        Check.call("tide(23, 3)", x, y -> y.tide(23, 3), 0);
        Check.call("tide(5, 8)", x, y -> y.tide(5, 8), 7);
        x.pass(48);
        int[] heads = {2, 0, 0, 0, 1, 8, 1, 0};
        for (int hour = 0; hour < heads.length; hour++) {
            int asked = hour;
            Check.call("head(" + hour + ")", x, y -> y.head(asked), heads[hour]);
            Check.call("head a day on of " + hour, x, y -> y.head(asked + 24), heads[hour]);
        }
        Check.call("head(23)", x, y -> y.head(23), 3);
        x.tide(5, -50);
        Check.call("hours that went by keep their head", x, y -> y.head(5), 8);
        refusedTides();
    }

    private static void refusedTides() {
        for (int hour : new int[] {-1, 24, 25, FAR, DEEP}) {
            Check.refused("tide(" + hour + ", 1)", TidesTurbinesTest::lively, y -> y.tide(hour, 1), Check.INDEX);
            Check.refused("tide(" + hour + ", 101)", TidesTurbinesTest::lively, y -> y.tide(hour, 101), Check.INDEX);
        }
        for (int level : new int[] {-101, 101, FAR, DEEP}) {
            Check.refused("tide(3, " + level + ")", TidesTurbinesTest::lively, y -> y.tide(3, level), Check.ARGUMENT);
        }
    }

    private static void promise3Price() {
        TidegateBourse x = new TidegateBourse();
        Check.call("price(5, 200)", x, y -> y.price(5, 200), 10);
        Check.call("price(5, 1)", x, y -> y.price(5, 1), 200);
        Check.call("price(5, 30)", x, y -> y.price(5, 30), 1);
        Check.call("price(0, 20)", x, y -> y.price(0, 20), 10);
        Check.call("price(23, 40)", x, y -> y.price(23, 40), 10);
        Check.call("price(23, 41)", x, y -> y.price(23, 41), 40);
        x.sell(5, 3, 1);
        x.sell(29, 2, 1);
        x.sell(47, 1, 1);
        x.pass(48);
        Check.call("money() by prices of the day", x, y -> y.money(), Check.bits(6f - 90f - 60f - 41f));
        for (int hour : new int[] {-1, 24, FAR, DEEP}) {
            Check.refused("price(" + hour + ", 1)", TidesTurbinesTest::lively, y -> y.price(hour, 1), Check.INDEX);
            Check.refused("price(" + hour + ", 0)", TidesTurbinesTest::lively, y -> y.price(hour, 0), Check.INDEX);
        }
        for (int price : new int[] {0, -1, 201, FAR, DEEP}) {
            Check.refused("price(4, " + price + ")", TidesTurbinesTest::lively, y -> y.price(4, price),
                    Check.ARGUMENT);
        }
    }

    private static void promise4Wind() {
        TidegateBourse x = new TidegateBourse();
        x.tide(0, 15);
        x.tide(1, 20);
        x.tide(2, -100);
        x.tide(3, 100);
        Check.call("wind(-20)", x, y -> y.wind(-20), 0);
        x.pass(3);
        Check.call("wind(20)", x, y -> y.wind(20), -20);
        x.pass(2);
        Check.call("wind(0)", x, y -> y.wind(0), 20);
        int[] heads = {5, 0, 120, 120, 20};
        for (int hour = 0; hour < heads.length; hour++) {
            int asked = hour;
            Check.call("head(" + hour + ") in wind", x, y -> y.head(asked), heads[hour]);
        }
        for (int wind : new int[] {-21, 21, FAR, DEEP}) {
            Check.refused("wind(" + wind + ")", TidesTurbinesTest::lively, y -> y.wind(wind), Check.ARGUMENT);
        }
    }

    private static void promise5Turbine() {
        TidegateBourse x = new TidegateBourse();
        x.pass(7);
        for (int number = 0; number < 4; number++) {
            int due = number;
            Check.call("about ahead of turbine()", x, y -> y.about(due, 0), Check.INDEX);
            Check.call("turbine()", x, y -> y.turbine(), number);
            for (int what = 0; what < 3; what++) {
                int asked = what;
                Check.call("about(" + number + ", " + what + ")", x, y -> y.about(due, asked), 0);
            }
        }
        Check.refused("a fifth turbine()", () -> {
            TidegateBourse four = lively();
            four.turbine();
            four.turbine();
            return four;
        }, y -> y.turbine(), Check.STATE);
    }

    private static void promise6Gate() {
        TidegateBourse x = new TidegateBourse();
        x.turbine();
        x.turbine();
        Check.call("gate(0, 7)", x, y -> y.gate(0, 7), 0);
        Check.call("gate(1, 3)", x, y -> y.gate(1, 3), 0);
        Check.call("gate(0, 5)", x, y -> y.gate(0, 5), 7);
        Check.call("gate(0, 0)", x, y -> y.gate(0, 0), 5);
        Check.call("gate(2, 1)", x, y -> y.gate(2, 1), Check.INDEX);
        whatGatesMake();
        for (int turbine : new int[] {-1, 2, 3, 4, FAR, DEEP}) {
            Check.refused("gate(" + turbine + ", 1)", TidesTurbinesTest::lively, y -> y.gate(turbine, 1),
                    Check.INDEX);
            Check.refused("gate(" + turbine + ", 8)", TidesTurbinesTest::lively, y -> y.gate(turbine, 8),
                    Check.INDEX);
        }
        for (int gate : new int[] {-1, 8, FAR, DEEP}) {
            Check.refused("gate(1, " + gate + ")", TidesTurbinesTest::lively, y -> y.gate(1, gate), Check.ARGUMENT);
        }
    }

    private static void whatGatesMake() {
        TidegateBourse x = new TidegateBourse();
        for (int number = 0; number < 4; number++) {
            x.turbine();
        }
        x.gate(0, 7);
        x.gate(1, 1);
        x.gate(2, 6);
        x.tide(0, 60);
        x.tide(1, 61);
        x.pass(1);
        Check.call("each turbine is rounded down", x, y -> y.made(0), 52 + 7 + 45);
        Check.call("wear at a head of 60", x, y -> y.about(0, 1), 7);
        Check.call("wear of gate 1", x, y -> y.about(1, 1), 1);
        Check.call("wear of gate 6", x, y -> y.about(2, 1), 6);
        x.pass(1);
        Check.call("made(1)", x, y -> y.made(1), 61 * 7 * 993 / 8000 + 61 * 999 / 8000 + 61 * 6 * 994 / 8000);
        Check.call("wear at a head of 61", x, y -> y.about(0, 1), 16);
        Check.call("wear of gate 1 at 61", x, y -> y.about(1, 1), 4);
        Check.call("gate 0 does not wear", x, y -> y.about(3, 1), 0);
        x.pass(1);
        Check.call("a head of 0 makes nothing", x, y -> y.made(2), 0);
        Check.call("a head of 0 wears", x, y -> y.about(0, 1), 23);
    }

    private static void promise7Repair() {
        TidegateBourse x = new TidegateBourse();
        x.turbine();
        x.turbine();
        x.gate(0, 7);
        for (int hour = 0; hour < 24; hour++) {
            x.tide(hour, 100);
        }
        x.pass(2);
        Check.call("repair(0)", x, y -> y.repair(0), 18);
        Check.call("repair(0) again", x, y -> y.repair(0), 0);
        Check.call("repair(1)", x, y -> y.repair(1), 0);
        Check.call("hours in repair", x, y -> y.about(0, 2), 5);
        x.pass(3);
        Check.call("hours in repair, 3 on", x, y -> y.about(0, 2), 2);
        Check.call("repair of one in repair", x, y -> y.repair(0), 0);
        Check.call("hours in repair anew", x, y -> y.about(0, 2), 5);
        Check.call("the other one's repair", x, y -> y.about(1, 2), 2);
        x.pass(5);
        Check.call("out of repair", x, y -> y.about(0, 2), 0);
        Check.call("the last hour of repair", x, y -> y.made(9), 0);
        Check.call("no wear in repair", x, y -> y.about(0, 1), 0);
        x.pass(1);
        Check.call("the first hour out of repair", x, y -> y.made(10), 87);
        Check.call("no longer in repair", x, y -> y.about(0, 2), 0);
        brokenTurbine();
        for (int turbine : new int[] {-1, 2, 3, 4, FAR, DEEP}) {
            Check.refused("repair(" + turbine + ")", TidesTurbinesTest::lively, y -> y.repair(turbine), Check.INDEX);
        }
    }

    private static void brokenTurbine() {
        TidegateBourse x = new TidegateBourse();
        x.turbine();
        x.gate(0, 7);
        for (int hour = 0; hour < 24; hour++) {
            x.tide(hour, 100);
        }
        x.pass(48);
        x.pass(48);
        x.pass(15);
        Check.call("wear of 111 hours", x, y -> y.about(0, 1), 999);
        x.wind(20);
        x.pass(1);
        Check.call("made with a wear of 999", x, y -> y.made(111), 0);
        Check.call("wear is at most 1000", x, y -> y.about(0, 1), 1000);
        x.pass(5);
        Check.call("made when broken", x, y -> y.made(115), 0);
        Check.call("wear when broken", x, y -> y.about(0, 1), 1000);
        Check.call("repair of a broken one", x, y -> y.repair(0), 1000);
        x.pass(6);
        Check.call("made in repair", x, y -> y.made(121), 0);
        Check.call("made behind repair", x, y -> y.made(122), 105);
        Check.call("found anew behind repair", x, y -> y.madeAnew(122), 105);
    }
}
