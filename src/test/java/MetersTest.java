/** Promises 2 to 5: set, bits, lane, turn. */
public final class MetersTest {
    private static final Due due = new Due();

    public static void main(String[] args) {
        holding();
        refusals();
        turningWholes();
        turningReals();
        sameNumber();
        due.end();
    }

    private static void holding() {
        RopeDrums x = new RopeDrums();
        long[] wholes = {0, 1, -1, 2147483647L, -2147483648L, 2147483648L, 4294967295L, 4294967301L,
            Long.MAX_VALUE, Long.MIN_VALUE, 0x123456789abcdefL};
        for (long w : wholes) {
            held(x, 0, w, (int) w);
            held(x, 1, w, w);
        }
        float[] floats = {0.0f, -0.0f, 1.0f, -1.5f, 0.1f, Float.MIN_VALUE, -Float.MIN_VALUE,
            Float.MIN_NORMAL, Math.nextDown(Float.MIN_NORMAL), Float.MAX_VALUE, -Float.MAX_VALUE,
            Float.POSITIVE_INFINITY, Float.NEGATIVE_INFINITY, 16777216f, 3.3e-20f};
        for (float v : floats) {
            held(x, 2, Due.f(v), Due.f(v));
            held(x, 2, Due.f(v) & 0xffffffffL, Due.f(v));
            held(x, 2, Due.f(v) ^ (1L << 40), Due.f(v));
        }
        double[] doubles = {0.0, -0.0, 1.0, -1.5, 0.1, Double.MIN_VALUE, -Double.MIN_VALUE,
            Double.MIN_NORMAL, Math.nextDown(Double.MIN_NORMAL), Double.MAX_VALUE, -Double.MAX_VALUE,
            Double.POSITIVE_INFINITY, Double.NEGATIVE_INFINITY, Math.nextDown(2.0), 1e-300, 1e300};
        for (double v : doubles) {
            held(x, 3, Due.d(v), Due.d(v));
        }
        for (int e = 0; e < 2047; e++) {
            long bits = (long) e << 52;
            held(new RopeDrums(), 3, bits, bits);
            held(new RopeDrums(), 3, bits + (1L << 52) - 1, bits + (1L << 52) - 1);
        }
        for (int e = 0; e < 255; e++) {
            long bits = (long) e << 23;
            held(new RopeDrums(), 2, bits, bits);
            held(new RopeDrums(), 2, bits + (1L << 23) - 1, bits + (1L << 23) - 1);
        }
    }

    private static void held(RopeDrums x, int lane, long given, long want) {
        due.is("set " + lane + " " + given, x.set(9, lane, given), 1);
        due.is("lane of " + given, x.lane(9), lane);
        due.is("bits of lane " + lane + " " + given, x.bits(9), want);
    }

    private static void refusals() {
        RopeDrums x = new RopeDrums();
        x.set(0, 1, 77);
        int[] nothing = {-1, 10, Integer.MIN_VALUE, Integer.MAX_VALUE};
        for (int meter : nothing) {
            due.is("set", x.set(meter, 0, 1), RopeDrums.UNKNOWN);
            due.is("set, lane wrong too", x.set(meter, 4, 1), RopeDrums.UNKNOWN);
            due.is("set, no number too", x.set(meter, 3, Due.d(Double.NaN)), RopeDrums.UNKNOWN);
            due.is("bits", x.bits(meter), RopeDrums.UNKNOWN);
            due.is("lane", x.lane(meter), RopeDrums.UNKNOWN);
            due.is("turn", x.turn(meter, 0), RopeDrums.UNKNOWN);
            due.is("turn, lane wrong too", x.turn(meter, 4), RopeDrums.UNKNOWN);
        }
        int[] noLanes = {-1, 4, Integer.MIN_VALUE, Integer.MAX_VALUE};
        for (int lane : noLanes) {
            due.is("set, lane", x.set(0, lane, 1), RopeDrums.OUTSIDE);
            due.is("turn, lane", x.turn(0, lane), RopeDrums.OUTSIDE);
        }
        long[] noFloats = {0x7f800001L, 0x7fc00000L, 0x7fffffffL, 0xff800001L, -1L, -8388607L, 0x17f800001L};
        for (long bits : noFloats) {
            due.is("set, no float " + bits, x.set(0, 2, bits), RopeDrums.OUTSIDE);
        }
        long[] noDoubles = {0x7ff0000000000001L, 0x7ff8000000000000L, Long.MAX_VALUE, -1L, -4503599627370495L};
        for (long bits : noDoubles) {
            due.is("set, no double " + bits, x.set(0, 3, bits), RopeDrums.OUTSIDE);
        }
        due.is("bits after refusals", x.bits(0), 77);
        due.is("lane after refusals", x.lane(0), 1);
        due.is("failed after refusals", x.failed(), 0);
    }

    private static void turned(int from, long given, int into, long want) {
        RopeDrums x = new RopeDrums();
        x.set(3, from, given);
        due.is("turn", x.turn(3, into), 1);
        due.is("lane after turn", x.lane(3), into);
        due.is("turned " + given + " from " + from + " into " + into, x.bits(3), want);
        due.is("others are untouched", x.bits(2), 0);
    }

    private static void turningWholes() {
        turned(0, -7, 1, -7);
        turned(0, 16777217, 2, Due.f(16777216f));
        turned(0, 16777219, 2, Due.f(16777220f));
        turned(0, -2147483648L, 3, Due.d(-2147483648.0));
        turned(1, 4294967299L, 0, 3);
        turned(1, 2147483648L, 0, -2147483648L);
        turned(1, 9007199254740993L, 3, Due.d(9007199254740992.0));
        turned(1, 9007199254740995L, 3, Due.d(9007199254740996.0));
        turned(1, Long.MAX_VALUE, 2, Due.f(9.223372E18f));
        // by way of a double this would be rounded twice, and fall on the other side
        long twice = (1L << 60) + (1L << 36) + 1;
        turned(1, twice, 2, Due.f((float) twice));
        due.isTrue("the way matters", (float) twice != (float) (double) twice);
    }

    private static void turningReals() {
        double[] reals = {0.0, -0.0, 0.5, -0.5, 0.99, -0.99, 1.5, -2.75, 2147483646.5, 2147483647.0, 2147483647.5,
            2147483648.0, -2147483648.5, -2147483649.0, 4294967297.0, 9.2e18, 9.3e18, -9.3e18, 1e300, -1e300,
            9.223372036854775E18, Double.MIN_VALUE, Double.POSITIVE_INFINITY, Double.NEGATIVE_INFINITY, 1e-46, 7e-46,
            7.1e-46, 3.4028234e38, 3.4028235e38, 3.40282356e38, 3.5e38, -3.5e38, 0.1, 1.0000000596046448,
            1.1754943e-38, 16777217.0, 16777219.0};
        for (double v : reals) {
            turned(3, Due.d(v), 0, (int) v);
            turned(3, Due.d(v), 1, (long) v);
            turned(3, Due.d(v), 2, Due.f((float) v));
            float w = (float) v;
            turned(2, Due.f(w), 0, (int) w);
            turned(2, Due.f(w), 1, (long) w);
            turned(2, Due.f(w), 3, Due.d(w));
        }
        turned(3, Due.d(4294967297.0), 0, 2147483647);
        turned(3, Due.d(-1e300), 1, Long.MIN_VALUE);
        turned(3, Due.d(1e39), 2, Due.f(Float.POSITIVE_INFINITY));
        turned(3, Due.d(-2.9), 0, -2);
    }

    private static void sameNumber() {
        turned(0, -5, 0, -5);
        turned(1, Long.MIN_VALUE, 1, Long.MIN_VALUE);
        turned(2, Due.f(-0.0f), 2, Due.f(-0.0f));
        turned(2, Due.f(-0.0f), 3, Due.d(-0.0));
        turned(3, Due.d(-0.0), 3, Due.d(-0.0));
        turned(3, Due.d(-0.0), 2, Due.f(-0.0f));
    }
}
