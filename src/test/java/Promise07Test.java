/** Promise 7: compare. */
public final class Promise07Test {
    private static final double ENDLESS = Walk.ENDLESS;

    public static void main(String[] args) {
        Promises.run(Promise07Test.class);
    }

    private static void compared(Due due, int xLane, long xBits, int yLane, long yBits, int want) {
        RopeDrums x = new RopeDrums();
        x.set(7, xLane, xBits);
        x.set(8, yLane, yBits);
        due.is("compare " + xBits + ", " + yBits, x.compare(7, 8), want);
        due.is("compare " + yBits + ", " + xBits, x.compare(8, 7), -want);
        due.is("compare " + xBits + " with itself", x.compare(7, 7), 0);
        due.is("the lane of x", x.lane(7), xLane);
        due.is("the bits of x", x.bits(7), xBits);
        due.is("the lane of y", x.lane(8), yLane);
        due.is("the bits of y", x.bits(8), yBits);
    }

    @Says("-1 x is below y, 1 above, 0 alike")
    static void p07_wholesAtTheirEnds(Due due) {
        compared(due, 0, -1, 0, 1, -1);
        compared(due, 0, 7, 0, 7, 0);
        compared(due, 0, Integer.MIN_VALUE, 0, Integer.MAX_VALUE, -1);
        compared(due, 0, Integer.MAX_VALUE, 0, Integer.MAX_VALUE - 1, 1);
        compared(due, 1, Long.MAX_VALUE, 1, Long.MIN_VALUE, 1);
        compared(due, 1, Long.MAX_VALUE, 1, Long.MAX_VALUE - 1, 1);
        compared(due, 1, Long.MIN_VALUE, 1, Long.MIN_VALUE + 1, -1);
        compared(due, 1, Long.MIN_VALUE, 1, Long.MIN_VALUE, 0);
    }

    @Says("-1 x is below y, 1 above, 0 alike")
    static void p07_realsFromEndlessToEndless(Due due) {
        double[] order = {-ENDLESS, -1e30, -2.0, -Float.MIN_VALUE, 0.0, Float.MIN_VALUE, 0.5, 1e30, ENDLESS};
        for (int i = 0; i < order.length; i++) {
            for (int k = 0; k < order.length; k++) {
                compared(due, 3, Due.d(order[i]), 3, Due.d(order[k]), Integer.compare(i, k));
                compared(due, 2, Due.f((float) order[i]), 2, Due.f((float) order[k]), Integer.compare(i, k));
            }
        }
        compared(due, 3, Due.d(Double.MIN_VALUE), 3, Due.d(0.0), 1);
        compared(due, 3, Due.d(Math.nextUp(1.0)), 3, Due.d(1.0), 1);
        compared(due, 3, Due.d(Double.MAX_VALUE), 3, Due.d(ENDLESS), -1);
    }

    @Says("(0.0 and -0.0 are).")
    static void p07_0AndMinus0AreAlike(Due due) {
        compared(due, 3, Due.d(0.0), 3, Due.d(-0.0), 0);
        compared(due, 2, Due.f(-0.0f), 2, Due.f(0.0f), 0);
        compared(due, 2, Due.f(-0.0f), 3, Due.d(0.0), 0);
        compared(due, 2, Due.f(-0.0f), 0, 0, 0);
        compared(due, 1, 0, 3, Due.d(-0.0), 0);
    }

    @Says("OF TWO METERS' numbers:")
    static void p07_bothAreTurnedIntoTheGreaterLane(Due due) {
        compared(due, 0, -8, 1, -8, 0);
        compared(due, 1, 4294967296L, 0, 0, 1);
        compared(due, 0, 16777217, 2, Due.f(16777216f), 0);
        compared(due, 0, 16777217, 3, Due.d(16777216.0), 1);
        compared(due, 1, Long.MAX_VALUE, 3, Due.d(0x1p63), 0);
        compared(due, 1, 9007199254740993L, 3, Due.d(9007199254740992.0), 0);
        compared(due, 2, Due.f(0.1f), 3, Due.d(0.1), 1);
        compared(due, 1, Walk.TWICE, 2, Due.f(0x1p60f), 1);
        compared(due, 1, Walk.TWICE, 2, Due.f(0x1.000002p60f), 0);
        compared(due, 0, 1, 3, Due.d(1.5), -1);
        compared(due, 1, Long.MAX_VALUE, 3, Due.d(ENDLESS), -1);
    }

    @Says("-1 x is below y, 1 above, 0 alike")
    static void p07_everyMeterMayBeCompared(Due due) {
        RopeDrums x = new RopeDrums();
        for (int meter = 0; meter < 10; meter++) {
            x.set(meter, meter % 4, meter % 4 == 3 ? Due.d(meter) : meter % 4 == 2 ? Due.f(meter) : meter);
        }
        for (int i = 0; i < 10; i++) {
            for (int k = 0; k < 10; k++) {
                due.is("compare(" + i + ", " + k + ")", x.compare(i, k), Integer.compare(i, k));
            }
        }
    }

    @Says("UNKNOWN.")
    static void p07_unknownMeters(Due due) {
        for (int meter : Due.beyond(10)) {
            due.refused("compare(" + meter + ", 1)", RopeDrums.UNKNOWN, x -> x.compare(meter, 1));
            due.refused("compare(1, " + meter + ")", RopeDrums.UNKNOWN, x -> x.compare(1, meter));
            due.refused("compare of it twice", RopeDrums.UNKNOWN, x -> x.compare(meter, meter));
        }
    }
}
