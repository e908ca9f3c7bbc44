/** A market of tidal power. ../shared/DOC.md says, promise by promise, what each call does. */
public final class TidegateBourse {
    private static final int DAY = 24;
    private static final int END = 500;
    private static final int MOST_HOURS_AT_ONCE = 48;
    private static final int HOURS_AHEAD = 47;

    private static final int MOST_LEVEL = 100;
    private static final int MOST_WIND = 20;
    private static final int MOST_PRICE = 200;
    private static final int FIRST_PRICE = 10;

    private static final int MOST_TURBINES = 4;
    private static final int MOST_GATE = 7;
    private static final int BROKEN = 1000;
    private static final int MADE_DIVISOR = 8000;
    private static final int HIGH_HEAD = 60;
    private static final int HIGH_HEAD_WEAR = 2;
    private static final int REPAIR_HOURS = 5;

    private static final int MOST_FISH = 1000;
    private static final int FIRST_LIMIT = 100;
    private static final int CLOSED_HOURS = 3;

    private static final int MOST_UNITS = 500;
    private static final int MOST_SOLD = 1000;

    private static final int ABOUT_GATE = 0;
    private static final int ABOUT_WEAR = 1;
    private static final int ABOUT_REPAIR = 2;

    // An hour's note, from its lowest bit: 7 bits of head, 3 bits of gate for each
    // turbine, a bit for each turbine that was repaired just ahead of the hour, and
    // a bit for a run of fish above the limit.
    private static final int HEAD_MASK = 127;
    private static final int GATES_SHIFT = 7;
    private static final int GATE_BITS = 3;
    private static final int GATE_MASK = 7;
    private static final int REPAIRS_SHIFT = GATES_SHIFT + GATE_BITS * MOST_TURBINES;
    private static final int RUN_SHIFT = REPAIRS_SHIFT + MOST_TURBINES;

    private static final int FLOAT_BIAS = 127;
    private static final int FLOAT_FRACTION_BITS = 23;
    private static final int FLOAT_SIGN = 1 << 31;

    private final int[] levels = new int[DAY];
    private final int[] prices = new int[DAY];
    private final int[] gates = new int[MOST_TURBINES];
    private final int[] wears = new int[MOST_TURBINES];
    // The first hour in which the turbine is out of repair again.
    private final int[] repairEnds = new int[MOST_TURBINES];
    private final int[] notes = new int[END];
    private final int[] madeUnits = new int[END];
    private final int[] soldUnits = new int[END + HOURS_AHEAD + 1];
    private int windNow;
    private int turbines;
    private int fishTold;
    private int fishLimit = FIRST_LIMIT;
    // The first hour that is not closed by fish of hours that have gone by.
    private int closedEnd;
    private int nextHour;
    private float balance;

    public TidegateBourse() {
        for (int hour = 0; hour < DAY; hour++) {
            prices[hour] = FIRST_PRICE;
        }
    }

    // ---- tides, turbines

    public int tide(int hour, int level) throws IndexOutOfBoundsException, IllegalArgumentException {
        requireIndex(hour, 0, DAY - 1);
        requireRange(level, -MOST_LEVEL, MOST_LEVEL);
        int before = levels[hour];
        levels[hour] = level;
        return before;
    }

    public int price(int hour, int price) throws IndexOutOfBoundsException, IllegalArgumentException {
        requireIndex(hour, 0, DAY - 1);
        requireRange(price, 1, MOST_PRICE);
        int before = prices[hour];
        prices[hour] = price;
        return before;
    }

    public int wind(int wind) throws IllegalArgumentException {
        requireRange(wind, -MOST_WIND, MOST_WIND);
        int before = windNow;
        windNow = wind;
        return before;
    }

    public int turbine() throws IllegalStateException {
        if (turbines >= MOST_TURBINES) {
            throw new IllegalStateException("no room for another turbine");
        }
        turbines++;
        return turbines - 1;
    }

    public int gate(int turbine, int gate) throws IndexOutOfBoundsException, IllegalArgumentException {
        requireIndex(turbine, 0, turbines - 1);
        requireRange(gate, 0, MOST_GATE);
        int before = gates[turbine];
        gates[turbine] = gate;
        return before;
    }

    public int repair(int turbine) throws IndexOutOfBoundsException {
        requireIndex(turbine, 0, turbines - 1);
        int before = wears[turbine];
        wears[turbine] = 0;
        repairEnds[turbine] = nextHour + REPAIR_HOURS;
        return before;
    }

    // ---- fish, market, hours

    public boolean run(int fish) throws IllegalArgumentException {
        requireRange(fish, 0, MOST_FISH);
        fishTold = fish;
        return fish > fishLimit;
    }

    public int limit(int fish) throws IllegalArgumentException {
        requireRange(fish, 0, MOST_FISH);
        int before = fishLimit;
        fishLimit = fish;
        return before;
    }

    public int sell(int hour, int units, int price)
            throws IndexOutOfBoundsException, IllegalArgumentException, IllegalStateException {
        requireIndex(hour, nextHour, nextHour + HOURS_AHEAD);
        requireRange(units, 1, MOST_UNITS);
        requireRange(price, 1, MOST_PRICE);
        if (soldUnits[hour] + units > MOST_SOLD) {
            throw new IllegalStateException("too much would be sold for the hour");
        }
        soldUnits[hour] += units;
        balance = balance + worth(units, price);
        return soldUnits[hour];
    }

    public int pass(int hours) throws IllegalArgumentException, IllegalStateException {
        requireRange(hours, 1, MOST_HOURS_AT_ONCE);
        int end = nextHour + hours;
        if (end > END) {
            throw new IllegalStateException("the next hour would be above the last");
        }
        for (int hour = nextHour; hour < end; hour++) {
            goBy(hour);
        }
        return nextHour;
    }

    // ---- questions

    public int now() {
        return nextHour;
    }

    public int made(int hour) throws IndexOutOfBoundsException {
        requireIndex(hour, 0, nextHour - 1);
        return madeUnits[hour];
    }

    public int madeAnew(int hour) throws IndexOutOfBoundsException {
        requireIndex(hour, 0, nextHour - 1);
        int sum = 0;
        for (int turbine = 0; turbine < MOST_TURBINES; turbine++) {
            sum += unitsFromNotes(turbine, hour);
        }
        return sum;
    }

    public int sold(int hour) throws IndexOutOfBoundsException {
        requireIndex(hour, 0, nextHour + HOURS_AHEAD);
        return soldUnits[hour];
    }

    public int bought(int hour) throws IndexOutOfBoundsException {
        requireIndex(hour, 0, nextHour - 1);
        return Math.max(0, soldUnits[hour] - madeUnits[hour]);
    }

    public int head(int hour) throws IndexOutOfBoundsException {
        requireIndex(hour, 0, nextHour - 1);
        return notedHead(notes[hour]);
    }

    public int about(int turbine, int what) throws IndexOutOfBoundsException, IllegalArgumentException {
        requireIndex(turbine, 0, turbines - 1);
        requireRange(what, ABOUT_GATE, ABOUT_REPAIR);
        if (what == ABOUT_GATE) {
            return gates[turbine];
        }
        if (what == ABOUT_WEAR) {
            return wears[turbine];
        }
        return Math.max(0, repairEnds[turbine] - nextHour);
    }

    public int closed() {
        return Math.max(0, closedEnd - nextHour);
    }

    public int money() {
        return bitsOf(balance);
    }

    // ---- an hour that goes by

    private void goBy(int hour) {
        int note = noteFor(hour);
        if (notedRun(note)) {
            closedEnd = hour + CLOSED_HOURS;
        }
        notes[hour] = note;
        madeUnits[hour] = makeUnits(hour, notedHead(note));
        settle(hour);
        fishTold = 0;
        nextHour = hour + 1;
    }

    private int noteFor(int hour) {
        int note = Math.abs(levels[hour % DAY] + windNow);
        for (int turbine = 0; turbine < turbines; turbine++) {
            note |= gates[turbine] << (GATES_SHIFT + GATE_BITS * turbine);
            if (repairEnds[turbine] == hour + REPAIR_HOURS) {
                note |= 1 << (REPAIRS_SHIFT + turbine);
            }
        }
        if (fishTold > fishLimit) {
            note |= 1 << RUN_SHIFT;
        }
        return note;
    }

    private int makeUnits(int hour, int head) {
        int sum = 0;
        for (int turbine = 0; turbine < turbines; turbine++) {
            int gate = gates[turbine];
            int wear = wears[turbine];
            if (works(hour, wear, repairEnds[turbine], closedEnd)) {
                sum += unitsOf(head, gate, wear);
                wears[turbine] = wearAfter(head, gate, wear);
            }
        }
        return sum;
    }

    private void settle(int hour) {
        int price = prices[hour % DAY];
        int more = madeUnits[hour] - soldUnits[hour];
        if (more < 0) {
            balance = balance - worth(-more, price);
        } else if (more > 0) {
            balance = balance + worth(more, price) * 0.5f;
        }
    }

    private static float worth(int units, int price) {
        return (float) units * (float) price;
    }

    private static boolean works(int hour, int wear, int repairEnd, int closedEnd) {
        return wear < BROKEN && hour >= repairEnd && hour >= closedEnd;
    }

    private static int unitsOf(int head, int gate, int wear) {
        return head * gate * (BROKEN - wear) / MADE_DIVISOR;
    }

    private static int wearAfter(int head, int gate, int wear) {
        if (gate == 0) {
            return wear;
        }
        int more = head > HIGH_HEAD ? gate + HIGH_HEAD_WEAR : gate;
        return Math.min(BROKEN, wear + more);
    }

    // ---- what was made, found once more

    /** The last hour has gone by. A turbine that was not built yet is noted with gate 0: it makes and wears nothing. */
    private int unitsFromNotes(int turbine, int lastHour) {
        int units = 0;
        int wear = 0;
        int repairEnd = 0;
        int runEnd = 0;
        for (int hour = 0; hour <= lastHour; hour++) {
            int note = notes[hour];
            if (notedRepair(note, turbine)) {
                wear = 0;
                repairEnd = hour + REPAIR_HOURS;
            }
            if (notedRun(note)) {
                runEnd = hour + CLOSED_HOURS;
            }
            units = 0;
            if (works(hour, wear, repairEnd, runEnd)) {
                units = unitsOf(notedHead(note), notedGate(note, turbine), wear);
                wear = wearAfter(notedHead(note), notedGate(note, turbine), wear);
            }
        }
        return units;
    }

    private static int notedHead(int note) {
        return note & HEAD_MASK;
    }

    private static int notedGate(int note, int turbine) {
        return (note >> (GATES_SHIFT + GATE_BITS * turbine)) & GATE_MASK;
    }

    private static boolean notedRepair(int note, int turbine) {
        return ((note >> (REPAIRS_SHIFT + turbine)) & 1) != 0;
    }

    private static boolean notedRun(int note) {
        return ((note >> RUN_SHIFT) & 1) != 0;
    }

    // ---- checks and bits

    private static void requireIndex(int index, int least, int most) {
        if (index < least || index > most) {
            throw new IndexOutOfBoundsException("no such turbine or hour");
        }
    }

    private static void requireRange(int value, int least, int most) {
        if (value < least || value > most) {
            throw new IllegalArgumentException("an argument is out of its range");
        }
    }

    /**
     * The bits of a float by arithmetic, as LANGUAGE.md leaves no library call for them.
     * The money is a multiple of 0.5, so it is never a subnormal number, and never -0.
     */
    private static int bitsOf(float value) {
        if (value == 0f) {
            return 0;
        }
        float size = value < 0f ? -value : value;
        int exponent = FLOAT_BIAS;
        for (int step = 0; step < FLOAT_BIAS && size >= 2f; step++) {
            size = size * 0.5f;
            exponent++;
        }
        for (int step = 0; step < FLOAT_BIAS && size < 1f; step++) {
            size = size * 2f;
            exponent--;
        }
        int fraction = (int) ((size - 1f) * (float) (1 << FLOAT_FRACTION_BITS));
        int bits = (exponent << FLOAT_FRACTION_BITS) | fraction;
        return value < 0f ? bits | FLOAT_SIGN : bits;
    }
}
