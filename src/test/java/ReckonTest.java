/** Promises 6 and 7: reckon and compare. */
public final class ReckonTest {
    private static final Due due = new Due();
    private static final double ENDLESS = Double.POSITIVE_INFINITY;

    public static void main(String[] args) {
        wholes();
        lanesOfTwo();
        voids();
        endlessOutcomes();
        left();
        refusals();
        sameMeter();
        comparing();
        due.end();
    }

    private static void made(int act, int xLane, long xBits, int yLane, long yBits, int lane, long want) {
        RopeDrums x = new RopeDrums();
        x.set(1, xLane, xBits);
        x.set(2, yLane, yBits);
        x.slow(0, 0);
        String call = "act " + act + " of " + xLane + ":" + xBits + ", " + yLane + ":" + yBits;
        due.is(call, x.reckon(act, 1, 2, 3), lane);
        due.is(call + ", lane", x.lane(3), lane);
        due.is(call + ", bits", x.bits(3), want);
        due.is(call + ", failed", x.failed(), 0);
        due.is(call + ", x", x.bits(1), xLane == 0 ? (int) xBits : xBits);
        due.is(call + ", y", x.bits(2), yLane == 0 ? (int) yBits : yBits);
    }

    private static void fails(int act, int xLane, long xBits, int yLane, long yBits, int failure) {
        RopeDrums x = new RopeDrums();
        x.set(1, xLane, xBits);
        x.set(2, yLane, yBits);
        x.set(3, 1, 55);
        String call = "act " + act + " of " + xLane + ":" + xBits + ", " + yLane + ":" + yBits;
        due.is(call, x.reckon(act, 1, 2, 3), -10 - failure);
        due.is(call + ", lane", x.lane(3), 1);
        due.is(call + ", bits", x.bits(3), 55);
        due.is(call + ", failed", x.failed(), failure);
        for (int what = 0; what <= 5; what++) {
            due.is(call + ", count", x.count(what), what == failure ? 1 : 0);
        }
    }

    private static void doubles(int act, double a, double b, double want) {
        made(act, 3, Due.d(a), 3, Due.d(b), 3, Due.d(want));
    }

    private static void floats(int act, float a, float b, float want) {
        made(act, 2, Due.f(a), 2, Due.f(b), 2, Due.f(want));
    }

    private static void wholes() {
        int least = Integer.MIN_VALUE;
        int most = Integer.MAX_VALUE;
        made(0, 0, most, 0, 1, 0, least);
        made(1, 0, least, 0, 1, 0, most);
        made(2, 0, 65536, 0, 65537, 0, 65536);
        made(3, 0, -7, 0, 2, 0, -3);
        made(3, 0, least, 0, -1, 0, least);
        made(4, 0, -7, 0, 2, 0, -1);
        made(4, 0, 7, 0, -2, 0, 1);
        made(4, 0, least, 0, -1, 0, 0);
        made(0, 1, Long.MAX_VALUE, 1, 1, 1, Long.MIN_VALUE);
        made(1, 1, Long.MIN_VALUE, 1, 1, 1, Long.MAX_VALUE);
        made(2, 1, Long.MAX_VALUE, 1, 3, 1, Long.MAX_VALUE * 3);
        made(3, 1, Long.MIN_VALUE, 1, -1, 1, Long.MIN_VALUE);
        made(4, 1, Long.MIN_VALUE, 1, -1, 1, 0);
        made(4, 1, -9, 1, 4, 1, -1);
        for (int xLane = 0; xLane <= 1; xLane++) {
            for (int yLane = 0; yLane <= 1; yLane++) {
                fails(3, xLane, 5, yLane, 0, 4);
                fails(4, xLane, 0, yLane, 0, 4);
                made(2, xLane, 5, yLane, 0, Math.max(xLane, yLane), 0);
            }
        }
    }

    private static void lanesOfTwo() {
        made(0, 0, Integer.MAX_VALUE, 1, 1, 1, 2147483648L);
        made(2, 1, 2147483648L, 0, 2, 1, 4294967296L);
        made(1, 0, 16777217, 2, Due.f(0f), 2, Due.f(16777216f));
        made(1, 0, 16777217, 3, Due.d(0), 3, Due.d(16777217.0));
        made(0, 2, Due.f(0.1f), 3, Due.d(0.1), 3, Due.d((double) 0.1f + 0.1));
        made(0, 1, 9007199254740993L, 3, Due.d(1), 3, Due.d(9007199254740992.0 + 1.0));
        long twice = (1L << 60) + (1L << 36) + 1;
        made(0, 1, twice, 2, Due.f(0f), 2, Due.f((float) twice));
        made(0, 2, Due.f(0.1f), 2, Due.f(0.2f), 2, Due.f(0.1f + 0.2f));
        made(3, 2, Due.f(1f), 2, Due.f(3f), 2, Due.f(1f / 3f));
        made(3, 0, 1, 3, Due.d(3), 3, Due.d(1.0 / 3.0));
        made(2, 2, Due.f(1e-30f), 2, Due.f(1e-10f), 2, Due.f(1e-30f * 1e-10f));
        made(2, 3, Due.d(1e-200), 3, Due.d(1e-120), 3, Due.d(1e-200 * 1e-120));
        made(1, 3, Due.d(0.0), 3, Due.d(0.0), 3, Due.d(0.0));
        made(0, 3, Due.d(-0.0), 3, Due.d(-0.0), 3, Due.d(-0.0));
        made(2, 3, Due.d(-0.0), 3, Due.d(5.0), 3, Due.d(-0.0));
    }

    private static void voids() {
        for (double sign : new double[] {1.0, -1.0}) {
            double e = sign * ENDLESS;
            voidBoth(0, e, -e);
            voidBoth(1, e, e);
            voidBoth(2, e, 0.0);
            voidBoth(2, -0.0, e);
            voidBoth(3, e, ENDLESS);
            voidBoth(3, e, -ENDLESS);
            voidBoth(3, sign * 0.0, 0.0);
            voidBoth(3, sign * 0.0, -0.0);
            voidBoth(4, e, 2.0);
            voidBoth(4, e, e);
            voidBoth(4, e, 0.0);
            voidBoth(4, sign * 3.0, 0.0);
            voidBoth(4, sign * 3.0, -0.0);
            voidBoth(4, sign * 0.0, 0.0);
        }
        fails(3, 0, 0, 2, Due.f(0.0f), 5);
        fails(4, 1, 5, 3, Due.d(0.0), 5);
        fails(4, 3, Due.d(5.0), 0, 0, 5);
        fails(2, 0, 0, 3, Due.d(ENDLESS), 5);
    }

    private static void voidBoth(int act, double a, double b) {
        fails(act, 3, Due.d(a), 3, Due.d(b), 5);
        fails(act, 2, Due.f((float) a), 2, Due.f((float) b), 5);
    }

    private static void endlessOutcomes() {
        doubles(0, ENDLESS, ENDLESS, ENDLESS);
        doubles(0, -ENDLESS, 1.0, -ENDLESS);
        doubles(1, ENDLESS, -ENDLESS, ENDLESS);
        doubles(1, 1.0, ENDLESS, -ENDLESS);
        doubles(2, -ENDLESS, ENDLESS, -ENDLESS);
        doubles(2, 1e200, 1e200, ENDLESS);
        doubles(3, 1.0, 0.0, ENDLESS);
        doubles(3, 1.0, -0.0, -ENDLESS);
        doubles(3, ENDLESS, 0.0, ENDLESS);
        doubles(3, 0.0, ENDLESS, 0.0);
        doubles(3, -1.0, ENDLESS, -0.0);
        floats(2, 1e30f, 1e30f, Float.POSITIVE_INFINITY);
        floats(1, 5.5f, 0.1f, 5.5f - 0.1f);
        floats(1, 1f, Float.POSITIVE_INFINITY, Float.NEGATIVE_INFINITY);
        doubles(1, 5.5, 0.1, 5.5 - 0.1);
        doubles(0, 5.5, 0.1, 5.5 + 0.1);
        floats(3, -1f, 0f, Float.NEGATIVE_INFINITY);
        floats(0, Float.MAX_VALUE, Float.MAX_VALUE, Float.POSITIVE_INFINITY);
    }

    private static void left() {
        double[] numbers = {1.0, -1.0, 7.5, -7.5, 0.1, 0.3, 2.0, 3.0, 1e16, 1e300, -1e300, Double.MAX_VALUE,
            Double.MIN_VALUE, Double.MIN_NORMAL, 3 * Double.MIN_VALUE, Math.nextUp(1.0), Math.nextDown(1.0),
            Math.PI, 1e-310, 1e-300, 0.0, -0.0};
        for (double a : numbers) {
            for (double b : numbers) {
                if (b != 0.0) {
                    doubles(4, a, b, a % b);
                }
            }
            doubles(4, a, ENDLESS, a);
            doubles(4, a, -ENDLESS, a);
        }
        float[] small = {1f, -7.5f, 0.1f, 3f, 1e38f, -1e38f, Float.MAX_VALUE, Float.MIN_VALUE, Float.MIN_NORMAL,
            5 * Float.MIN_VALUE, Math.nextDown(1f), -0.0f};
        for (float a : small) {
            for (float b : small) {
                if (b != 0f) {
                    floats(4, a, b, a % b);
                }
            }
            floats(4, a, Float.NEGATIVE_INFINITY, a);
        }
        doubles(4, -6.0, 2.0, -0.0);
        doubles(4, 6.0, -2.0, 0.0);
        doubles(4, 5.5, -2.0, 1.5);
        // 1.0 / 0.1 rounds to 10.0, but exactly it is less
        doubles(4, 1.0, 0.1, 0.09999999999999995);
    }

    private static void refusals() {
        RopeDrums x = new RopeDrums();
        x.reckon(3, 0, 0, 0);
        int[] nothing = {-1, 10, Integer.MIN_VALUE, Integer.MAX_VALUE};
        for (int meter : nothing) {
            due.is("x", x.reckon(0, meter, 0, 0), RopeDrums.UNKNOWN);
            due.is("y", x.reckon(0, 0, meter, 0), RopeDrums.UNKNOWN);
            due.is("into", x.reckon(0, 0, 0, meter), RopeDrums.UNKNOWN);
            due.is("into, ahead of ZERO", x.reckon(3, 0, 0, meter), RopeDrums.UNKNOWN);
            due.is("into, act wrong too", x.reckon(5, 0, 0, meter), RopeDrums.UNKNOWN);
            due.is("compare", x.compare(meter, 0), RopeDrums.UNKNOWN);
            due.is("compare", x.compare(0, meter), RopeDrums.UNKNOWN);
        }
        int[] noActs = {-1, 5, Integer.MIN_VALUE, Integer.MAX_VALUE};
        for (int act : noActs) {
            due.is("act", x.reckon(act, 0, 0, 0), RopeDrums.OUTSIDE);
        }
        due.is("failed is still that of the first", x.failed(), 4);
        due.is("count", x.count(4), 1);
    }

    private static void sameMeter() {
        RopeDrums x = new RopeDrums();
        x.set(4, 2, Due.f(1.5f));
        due.is("x + x", x.reckon(0, 4, 4, 4), 2);
        due.is("in x", x.bits(4), Due.f(3f));
        x.set(5, 0, 2);
        due.is("y into y", x.reckon(3, 4, 5, 5), 2);
        due.is("in y", x.bits(5), Due.f(1.5f));
    }

    private static void comparing() {
        double[] order = {-ENDLESS, -1e300, -2.0, -Double.MIN_VALUE, 0.0, Double.MIN_VALUE, 0.5, 1e300, ENDLESS};
        for (int i = 0; i < order.length; i++) {
            for (int k = 0; k < order.length; k++) {
                compared(3, Due.d(order[i]), 3, Due.d(order[k]), Integer.compare(i, k));
            }
        }
        compared(3, Due.d(0.0), 3, Due.d(-0.0), 0);
        compared(2, Due.f(-0.0f), 2, Due.f(0.0f), 0);
        compared(2, Due.f(-0.0f), 0, 0, 0);
        compared(0, -1, 0, 1, -1);
        compared(0, 7, 0, 7, 0);
        compared(0, -8, 1, -8, 0);
        compared(1, Long.MIN_VALUE, 1, Long.MIN_VALUE, 0);
        compared(0, Integer.MIN_VALUE, 0, Integer.MAX_VALUE, -1);
        compared(1, Long.MAX_VALUE, 1, Long.MIN_VALUE, 1);
        compared(1, 4294967296L, 0, 0, 1);
        compared(0, 16777217, 2, Due.f(16777216f), 0);
        compared(0, 16777217, 3, Due.d(16777216.0), 1);
        compared(1, Long.MAX_VALUE, 3, Due.d(9.223372036854775807E18), 0);
        compared(1, Long.MAX_VALUE, 1, Long.MAX_VALUE - 1, 1);
        compared(2, Due.f(0.1f), 3, Due.d(0.1), 1);
        long twice = (1L << 60) + (1L << 36) + 1;
        compared(1, twice, 2, Due.f((float) (double) twice), 1);
    }

    private static void compared(int xLane, long xBits, int yLane, long yBits, int want) {
        RopeDrums x = new RopeDrums();
        x.set(7, xLane, xBits);
        x.set(8, yLane, yBits);
        due.is("compare " + xBits + ", " + yBits, x.compare(7, 8), want);
        due.is("compare " + yBits + ", " + xBits, x.compare(8, 7), -want);
        due.is("x is as it was", x.lane(7), xLane);
    }
}
