import java.util.Arrays;

/** A rope walk: meters, drums, logs, racks and brakes, as ../shared/DOC.md promises. */
public final class RopeDrums {
    public static final int NONE = -1, UNKNOWN = -1001, OUTSIDE = -1002, FULL = -1003;

    private static final int INTS = 0, LONGS = 1, FLOATS = 2, DOUBLES = 3;
    private static final int MISSING = 1, PLACE = 2, MISFIT = 3, ZERO = 4, VOID = 5;
    private static final int ADD = 0, SUBTRACT = 1, MULTIPLY = 2, DIVIDE = 3, LEAVE = 4;
    private static final int PAD = 0, DRAG = 1, NO_BRAKE = 2;

    private static final int METERS = 10, DRUMS = 6, LOGS = 8, SPOOLS = 30, RACKS = 5, BRAKES = 4;
    private static final int FLOAT_LOGS = 4, LOG_PLACES = 16, RACK_PLACES = 12, HEAVIEST = 100000;

    private final Meter[] meters = new Meter[METERS];
    private final Drum[] drums = new Drum[DRUMS];
    private final Log[] logs = new Log[LOGS];
    private final Spool[] spools = new Spool[SPOOLS];
    private final Rack[] racks = new Rack[RACKS];
    private final Brake[] brakes = new Brake[BRAKES];
    private final int[] failures = new int[VOID + 1];
    private int spoolCount = 0;
    private int latestFailure = 0;

    public RopeDrums() {
        for (int i = 0; i < METERS; i++) {
            meters[i] = new Meter();
        }
        for (int i = 0; i < DRUMS; i++) {
            drums[i] = new Drum();
        }
        for (int i = 0; i < LOGS; i++) {
            logs[i] = new Log(i < FLOAT_LOGS ? FLOATS : DOUBLES);
        }
        for (int i = 0; i < RACKS; i++) {
            racks[i] = new Rack();
        }
        for (int i = 0; i < BRAKES; i++) {
            brakes[i] = new Brake();
        }
    }

    // ---- meters ----

    public int set(int meter, int lane, long bits) {
        Meter held = meterOf(meter);
        if (held == null) {
            return UNKNOWN;
        }
        if (!isLane(lane)) {
            return OUTSIDE;
        }
        if (lane <= LONGS) {
            held.holdWhole(lane, bits);
            return 1;
        }
        Form form = formOf(lane);
        if (!form.isNumber(bits)) {
            return OUTSIDE;
        }
        held.holdReal(lane, form.numberOf(bits));
        return 1;
    }

    public long bits(int meter) {
        Meter held = meterOf(meter);
        if (held == null) {
            return UNKNOWN;
        }
        return held.isWhole() ? held.number : formOf(held.lane).bitsOf(held.real);
    }

    public int lane(int meter) {
        Meter held = meterOf(meter);
        return held == null ? UNKNOWN : held.lane;
    }

    public int turn(int meter, int lane) {
        Meter held = meterOf(meter);
        if (held == null) {
            return UNKNOWN;
        }
        if (!isLane(lane)) {
            return OUTSIDE;
        }
        held.turnInto(lane);
        return 1;
    }

    public int reckon(int act, int x, int y, int into) {
        Meter first = meterOf(x);
        Meter second = meterOf(y);
        Meter outcome = meterOf(into);
        if (first == null || second == null || outcome == null) {
            return UNKNOWN;
        }
        if (act < ADD || act > LEAVE) {
            return OUTSIDE;
        }
        int lane = Math.max(first.lane, second.lane);
        if (lane <= LONGS) {
            return reckonWholes(act, lane, first.asLong(), second.asLong(), outcome);
        }
        if (isVoid(act, first.asReal(lane), second.asReal(lane))) {
            return fail(VOID);
        }
        double made = lane == FLOATS
                ? (double) makeFloat(act, first.asFloat(), second.asFloat())
                : makeDouble(act, first.asDouble(), second.asDouble());
        outcome.holdReal(lane, made);
        return succeed(lane);
    }

    public int compare(int x, int y) {
        Meter first = meterOf(x);
        Meter second = meterOf(y);
        if (first == null || second == null) {
            return UNKNOWN;
        }
        int lane = Math.max(first.lane, second.lane);
        if (lane <= LONGS) {
            long a = first.asLong();
            long b = second.asLong();
            return a < b ? -1 : a > b ? 1 : 0;
        }
        double a = first.asReal(lane);
        double b = second.asReal(lane);
        return a < b ? -1 : a > b ? 1 : 0;
    }

    // ---- drums ----

    public int drum(int drum, long around) {
        Drum turned = drumOf(drum);
        if (turned == null) {
            return UNKNOWN;
        }
        if (!Form.DOUBLE.isNumber(around)) {
            return OUTSIDE;
        }
        double length = Form.DOUBLE.numberOf(around);
        if (length < 0.125 || length > 1000000.0) {
            return OUTSIDE;
        }
        turned.around = length;
        turned.at = 0.0;
        turned.rope = 0.0;
        turned.turns = 0;
        return 1;
    }

    public int wind(int drum, int meter) {
        Drum turned = drumOf(drum);
        Meter held = meterOf(meter);
        if (turned == null || held == null) {
            return UNKNOWN;
        }
        double v = held.asDouble();
        if (isEndless(v)) {
            return fail(VOID);
        }
        double s = turned.at + v;
        turned.turns += (long) (s / turned.around);
        turned.at = leftOf(s, turned.around);
        turned.rope = turned.rope + v;
        return succeed(1);
    }

    public long told(int drum, int what) {
        Drum turned = drumOf(drum);
        if (turned == null) {
            return UNKNOWN;
        }
        switch (what) {
            case 0:
                return Form.DOUBLE.bitsOf(turned.around);
            case 1:
                return Form.DOUBLE.bitsOf(turned.at);
            case 2:
                return Form.DOUBLE.bitsOf(turned.rope);
            case 3:
                return turned.turns;
            default:
                return OUTSIDE;
        }
    }

    // ---- logs ----

    public int log(int log, int n) {
        Log kept = logOf(log);
        if (kept == null) {
            return UNKNOWN;
        }
        if (n < NONE || n > LOG_PLACES) {
            return OUTSIDE;
        }
        Arrays.fill(kept.row, 0.0);
        kept.size = n;
        return 1;
    }

    public int write(int log, int i, int meter) {
        Log kept = logOf(log);
        Meter held = meterOf(meter);
        if (kept == null || held == null) {
            return UNKNOWN;
        }
        int lack = kept.lackAt(i);
        if (lack != 0) {
            return fail(lack);
        }
        kept.row[i] = held.asReal(kept.lane);
        return succeed(1);
    }

    public int read(int log, int i, int meter) {
        Log kept = logOf(log);
        Meter held = meterOf(meter);
        if (kept == null || held == null) {
            return UNKNOWN;
        }
        int lack = kept.lackAt(i);
        if (lack != 0) {
            return fail(lack);
        }
        held.holdReal(kept.lane, kept.row[i]);
        return succeed(kept.lane);
    }

    public int rest(int log, int i, int k) {
        Log kept = logOf(log);
        if (kept == null) {
            return UNKNOWN;
        }
        // Of a missing log both lack the same; else the greater is the one that lacks a place.
        int lack = Math.max(kept.lackAt(i), kept.lackAt(k));
        if (lack != 0) {
            return fail(lack);
        }
        if (isVoid(LEAVE, kept.row[i], kept.row[k])) {
            return fail(VOID);
        }
        // What is left of one float by another is a float: nothing is to be rounded here.
        kept.row[i] = leftOf(kept.row[i], kept.row[k]);
        return succeed(1);
    }

    public int copy(int doubles, int floats, boolean back) {
        Log ofDoubles = logOf(doubles);
        Log ofFloats = logOf(floats);
        if (ofDoubles == null || ofFloats == null) {
            return UNKNOWN;
        }
        if (ofDoubles.lane != DOUBLES || ofFloats.lane != FLOATS) {
            return UNKNOWN;
        }
        return back ? copyPlaces(ofFloats, ofDoubles) : copyPlaces(ofDoubles, ofFloats);
    }

    private int copyPlaces(Log from, Log to) {
        if (from.size == NONE) {
            return fail(MISSING);
        }
        if (from.size == 0) {
            return succeed(0);
        }
        if (to.size == NONE) {
            return fail(MISSING);
        }
        int came = Math.min(from.size, to.size);
        for (int i = 0; i < came; i++) {
            double number = from.row[i];
            to.row[i] = to.lane == FLOATS ? (double) (float) number : number;
        }
        if (came < from.size) {
            fail(PLACE);
            return came;
        }
        return succeed(came);
    }

    public long whole(int log, int i) {
        Log kept = logOf(log);
        if (kept == null) {
            return 0;
        }
        int lack = kept.lackAt(i);
        if (lack != 0) {
            fail(lack);
            return 0;
        }
        succeed(1);
        return (long) kept.row[i];
    }

    // ---- spools and racks ----

    public int spool(int weight, boolean reel) {
        if (weight < 0 || weight > HEAVIEST) {
            return OUTSIDE;
        }
        if (spoolCount >= SPOOLS) {
            return FULL;
        }
        int number = spoolCount;
        spools[number] = new Spool(number, weight, reel);
        spoolCount++;
        return number;
    }

    public int rack(int rack, boolean reels, int n) {
        Rack filled = rackOf(rack);
        if (filled == null) {
            return UNKNOWN;
        }
        if (n < NONE || n > RACK_PLACES) {
            return OUTSIDE;
        }
        filled.clearRow();
        filled.reelsAlone = reels;
        filled.size = n;
        return 1;
    }

    public int put(int rack, int i, int spool) {
        Rack filled = rackOf(rack);
        Spool coming = spoolOf(spool);
        if (filled == null || (coming == null && spool != NONE)) {
            return UNKNOWN;
        }
        int lack = filled.lackAt(i);
        if (lack != 0) {
            return fail(lack);
        }
        if (coming != null && !coming.isReel && filled.reelsAlone) {
            return fail(MISFIT);
        }
        filled.row[i] = coming;
        return succeed(1);
    }

    public int at(int rack, int i) {
        Rack filled = rackOf(rack);
        if (filled == null) {
            return UNKNOWN;
        }
        int lack = filled.lackAt(i);
        if (lack != 0) {
            return fail(lack);
        }
        Spool there = filled.row[i];
        return succeed(there == null ? NONE : there.number);
    }

    public int weight(int rack, int i, boolean reel) {
        Rack filled = rackOf(rack);
        if (filled == null) {
            return UNKNOWN;
        }
        int lack = filled.lackAt(i);
        if (lack != 0) {
            return fail(lack);
        }
        Spool there = filled.row[i];
        // Where nothing is there is no spool that could be a misfit, so this may be asked first.
        if (there == null) {
            return fail(MISSING);
        }
        if (reel && !there.isReel) {
            return fail(MISFIT);
        }
        return succeed(reel ? 2 * there.weight + 1 : there.weight);
    }

    // ---- brakes ----

    public int brake(int brake, int sort, long grip) {
        Brake fitted = brakeOf(brake);
        if (fitted == null) {
            return UNKNOWN;
        }
        if (sort < PAD || sort > NO_BRAKE) {
            return OUTSIDE;
        }
        if (sort != NO_BRAKE) {
            if (!Form.DOUBLE.isNumber(grip)) {
                return OUTSIDE;
            }
            fitted.grip = Form.DOUBLE.numberOf(grip);
        }
        fitted.sort = sort;
        return 1;
    }

    public int slow(int brake, int meter) {
        Brake fitted = brakeOf(brake);
        Meter held = meterOf(meter);
        if (fitted == null || held == null) {
            return UNKNOWN;
        }
        if (fitted.sort == NO_BRAKE) {
            return fail(MISSING);
        }
        double v = held.asDouble();
        if (isVoid(fitted.sort == DRAG ? DIVIDE : LEAVE, v, fitted.grip)) {
            return fail(VOID);
        }
        double outcome = fitted.sort == DRAG
                ? (double) (float) (v / fitted.grip)
                : leftOf(v, fitted.grip);
        held.holdReal(DOUBLES, outcome);
        return succeed(1);
    }

    // ---- what failed ----

    public int failed() {
        return latestFailure;
    }

    public int count(int what) {
        if (what == 0) {
            return spoolCount;
        }
        if (what < MISSING || what > VOID) {
            return OUTSIDE;
        }
        return failures[what];
    }

    private int fail(int failure) {
        failures[failure]++;
        latestFailure = failure;
        return -10 - failure;
    }

    private int succeed(int answer) {
        latestFailure = 0;
        return answer;
    }

    // ---- by their numbers: null where a number names nothing ----

    private Meter meterOf(int number) {
        return number >= 0 && number < METERS ? meters[number] : null;
    }

    private Drum drumOf(int number) {
        return number >= 0 && number < DRUMS ? drums[number] : null;
    }

    private Log logOf(int number) {
        return number >= 0 && number < LOGS ? logs[number] : null;
    }

    private Spool spoolOf(int number) {
        return number >= 0 && number < spoolCount ? spools[number] : null;
    }

    private Rack rackOf(int number) {
        return number >= 0 && number < RACKS ? racks[number] : null;
    }

    private Brake brakeOf(int number) {
        return number >= 0 && number < BRAKES ? brakes[number] : null;
    }

    private static boolean isLane(int lane) {
        return lane >= INTS && lane <= DOUBLES;
    }

    private static Form formOf(int lane) {
        return lane == FLOATS ? Form.FLOAT : Form.DOUBLE;
    }

    // ---- reckoning ----

    private int reckonWholes(int act, int lane, long a, long b, Meter outcome) {
        if (act >= DIVIDE && b == 0) {
            return fail(ZERO);
        }
        // Ints are reckoned as longs: the lowest 32 bits, which are held, are the same.
        long made;
        switch (act) {
            case ADD:
                made = a + b;
                break;
            case SUBTRACT:
                made = a - b;
                break;
            case MULTIPLY:
                made = a * b;
                break;
            case DIVIDE:
                made = a / b;
                break;
            default:
                made = a % b;
                break;
        }
        outcome.holdWhole(lane, made);
        return succeed(lane);
    }

    private static float makeFloat(int act, float a, float b) {
        switch (act) {
            case ADD:
                return a + b;
            case SUBTRACT:
                return a - b;
            case MULTIPLY:
                return a * b;
            case DIVIDE:
                return a / b;
            default:
                return (float) leftOf(a, b);
        }
    }

    private static double makeDouble(int act, double a, double b) {
        switch (act) {
            case ADD:
                return a + b;
            case SUBTRACT:
                return a - b;
            case MULTIPLY:
                return a * b;
            case DIVIDE:
                return a / b;
            default:
                return leftOf(a, b);
        }
    }

    /** Whether an act's outcome would be no number; told ahead, as it must never be made. */
    private static boolean isVoid(int act, double a, double b) {
        switch (act) {
            case ADD:
                return isEndless(a) && isEndless(b) && a != b;
            case SUBTRACT:
                return isEndless(a) && isEndless(b) && a == b;
            case MULTIPLY:
                return (isEndless(a) && b == 0.0) || (a == 0.0 && isEndless(b));
            case DIVIDE:
                return (isEndless(a) && isEndless(b)) || (a == 0.0 && b == 0.0);
            default:
                return isEndless(a) || b == 0.0;
        }
    }

    private static boolean isEndless(double x) {
        double most = 1.7976931348623157E308;
        return x > most || x < -most;
    }

    /** What is left of x, not endless, by y, not 0.0: exactly, in whole steps of y's last bit. */
    private static double leftOf(double x, double y) {
        if (x == 0.0 || isEndless(y)) {
            return x;
        }
        long xBits = Form.DOUBLE.sizeOf(x < 0.0 ? -x : x);
        long yBits = Form.DOUBLE.sizeOf(y < 0.0 ? -y : y);
        long by = Form.DOUBLE.stepsOf(yBits);
        int yPower = Form.DOUBLE.powerOf(yBits);
        int shift = Form.DOUBLE.powerOf(xBits) - yPower;
        // With a lesser power x is the lesser number; no y is 0 here, but a divisor is looked at.
        if (shift < 0 || by == 0) {
            return x;
        }
        long left = Form.DOUBLE.stepsOf(xBits) % by;
        // Ten bits more keep what is left, below 2^53, within a long.
        for (; shift > 0 && left != 0; shift -= 10) {
            left = (left << Math.min(shift, 10)) % by;
        }
        double size = (double) left * powerOfTwo(yPower);
        return x < 0.0 ? -size : size;
    }

    /** 2 to the n-th, n from -1074 to 1023: each product is exact, and so is the outcome. */
    private static double powerOfTwo(int n) {
        double power = 1.0;
        double square = n < 0 ? 0.5 : 2.0;
        for (int factors = Math.abs(n); factors > 0; factors >>= 1) {
            if ((factors & 1) != 0) {
                power = power * square;
            }
            square = square * square;
        }
        return power;
    }

    /**
     * How bits tell a float or a double, by arithmetic alone. A float is held as the double that is
     * the same number. The SIZE is the bits without the sign; a number's size is its STEPS, a whole
     * number, times 2 to its POWER.
     */
    private enum Form {
        FLOAT(23, -126, 255, 31),
        DOUBLE(52, -1022, 2047, 63);

        private final int fraction;
        private final int lowest;
        private final int endless;
        private final int sign;

        Form(int fraction, int lowest, int endless, int sign) {
            this.fraction = fraction;
            this.lowest = lowest;
            this.endless = endless;
            this.sign = sign;
        }

        private long sizeIn(long bits) {
            return bits & ((1L << sign) - 1);
        }

        private long endlessSize() {
            return (long) endless << fraction;
        }

        boolean isNumber(long bits) {
            return sizeIn(bits) <= endlessSize();
        }

        long stepsOf(long size) {
            long ahead = 1L << fraction;
            long behind = size & (ahead - 1);
            return size < ahead ? behind : ahead + behind;
        }

        int powerOf(long size) {
            int exponent = (int) (size >>> fraction);
            return Math.max(exponent, 1) - 1 + lowest - fraction;
        }

        double numberOf(long bits) {
            long size = sizeIn(bits);
            double number = size == endlessSize()
                    ? 1.0E308 * 10.0
                    : (double) stepsOf(size) * powerOfTwo(powerOf(size));
            return (bits >>> sign & 1) != 0 ? -number : number;
        }

        long bitsOf(double number) {
            // Only what it makes of 1.0 tells -0.0 from 0.0.
            boolean below = number < 0.0 || (number == 0.0 && 1.0 / number < 0.0);
            long size = sizeOf(below ? -number : number);
            return below ? size | (-1L << sign) : size;
        }

        /** The size of a number of this form that is not below 0.0. */
        long sizeOf(double number) {
            if (isEndless(number)) {
                return endlessSize();
            }
            if (number < powerOfTwo(lowest)) {
                // 2 to the (fraction - lowest) is beyond the doubles: it goes in two halves.
                int half = (fraction - lowest) / 2;
                return (long) (number * powerOfTwo(half) * powerOfTwo(fraction - lowest - half));
            }
            double scaled = number;
            int power = 0;
            for (int step = 512; step > 0; step >>= 1) {
                double scale = powerOfTwo(step);
                if (scaled >= scale) {
                    scaled = scaled / scale;
                    power += step;
                } else if (scaled * scale < 2.0) {
                    scaled = scaled * scale;
                    power -= step;
                }
            }
            // Now scaled is from 1.0 up to 2.0, and its leading 1 adds 1 to the exponent.
            return ((long) (power - lowest) << fraction) + (long) (scaled * powerOfTwo(fraction));
        }
    }

    /** A number of a lane: in number if it is of ints or longs, in real if of floats or doubles. */
    private static final class Meter {
        int lane = INTS;
        long number = 0;
        double real = 0.0;

        boolean isWhole() {
            return lane <= LONGS;
        }

        int asInt() {
            return isWhole() ? (int) number : (int) real;
        }

        long asLong() {
            return isWhole() ? number : (long) real;
        }

        // Straight from the long: by way of a double it would be rounded twice.
        float asFloat() {
            return isWhole() ? (float) number : (float) real;
        }

        double asDouble() {
            return isWhole() ? (double) number : real;
        }

        double asReal(int into) {
            return into == FLOATS ? (double) asFloat() : asDouble();
        }

        void turnInto(int into) {
            if (into == INTS) {
                holdWhole(INTS, asInt());
            } else if (into == LONGS) {
                holdWhole(LONGS, asLong());
            } else {
                holdReal(into, asReal(into));
            }
        }

        void holdWhole(int ofLane, long held) {
            lane = ofLane;
            number = ofLane == INTS ? (int) held : held;
        }

        void holdReal(int ofLane, double held) {
            lane = ofLane;
            real = held;
        }
    }

    private static final class Drum {
        double around = 1.0;
        double at = 0.0;
        double rope = 0.0;
        long turns = 0;
    }

    /**
     * How many places count, or NONE: it is missing. Whoever has places makes them once, as many as
     * there may ever be, and uses them again: a new row costs nothing.
     */
    private abstract static class Places {
        int size = NONE;

        /** Why there is no place i: a failure, or 0. */
        int lackAt(int i) {
            if (size == NONE) {
                return MISSING;
            }
            return i < 0 || i >= size ? PLACE : 0;
        }
    }

    private static final class Log extends Places {
        final int lane;
        final double[] row = new double[LOG_PLACES];

        Log(int lane) {
            this.lane = lane;
        }
    }

    private static final class Spool {
        final int number;
        final int weight;
        final boolean isReel;

        Spool(int number, int weight, boolean isReel) {
            this.number = number;
            this.weight = weight;
            this.isReel = isReel;
        }
    }

    private static final class Rack extends Places {
        final Spool[] row = new Spool[RACK_PLACES];
        boolean reelsAlone = false;

        void clearRow() {
            for (int i = 0; i < RACK_PLACES; i++) {
                row[i] = null;
            }
        }
    }

    private static final class Brake {
        int sort = NO_BRAKE;
        double grip = 0.0;
    }
}
