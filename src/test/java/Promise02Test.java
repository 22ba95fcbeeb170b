/** Promise 2: set. */
public final class Promise02Test {
    private static final double ENDLESS = Walk.ENDLESS;

    public static void main(String[] args) {
        Promises.run(Promise02Test.class);
    }

    private static void held(Due due, int lane, long given, long want) {
        RopeDrums x = new RopeDrums();
        String call = "set(9, " + lane + ", " + given + ")";
        due.is(call, x.set(9, lane, given), 1);
        due.is(call + ", lane", x.lane(9), lane);
        due.is(call + ", bits", x.bits(9), want);
    }

    @Says("A METER holds a number of a LANE, by its BITS: 1.")
    static void p02_everyMeterHoldsItsOwnNumber(Due due) {
        RopeDrums x = new RopeDrums();
        for (int meter = 0; meter < 10; meter++) {
            due.is("set " + meter, x.set(meter, 1, 100 + meter), 1);
        }
        for (int meter = 0; meter < 10; meter++) {
            due.is("bits " + meter, x.bits(meter), 100 + meter);
        }
    }

    @Says("LANES: 0 ints, 1 longs, 2 floats, 3 doubles.")
    static void p02_laneTakesThePlaceOfAnother(Due due) {
        RopeDrums x = new RopeDrums();
        long[] bits = {-3, 1L << 40, Due.f(-1.5f), Due.d(-1.5)};
        for (int first = 0; first < 4; first++) {
            for (int lane = 0; lane < 4; lane++) {
                x.set(0, first, bits[first]);
                due.is("set", x.set(0, lane, bits[lane]), 1);
                due.is("lane", x.lane(0), lane);
                due.is("bits", x.bits(0), bits[lane]);
            }
        }
    }

    @Says("BITS tell a number: of ints, longs the number itself (given: its lowest 32 bits for ints);")
    static void p02_intsTakeTheLowest32Bits(Due due) {
        held(due, 0, 2147483647L, 2147483647L);
        held(due, 0, -2147483648L, -2147483648L);
        held(due, 0, 2147483648L, -2147483648L);
        held(due, 0, -2147483649L, 2147483647L);
        held(due, 0, 4294967295L, -1);
        held(due, 0, 4294967296L, 0);
        held(due, 0, 4294967301L, 5);
        held(due, 0, Long.MAX_VALUE, -1);
        held(due, 0, Long.MIN_VALUE, 0);
    }

    @Says("of ints, longs the number itself")
    static void p02_longsTakeAll64Bits(Due due) {
        long[] numbers = {0, 1, -1, 2147483648L, 4294967296L, Long.MAX_VALUE, Long.MIN_VALUE, 0x123456789abcdefL};
        for (long number : numbers) {
            held(due, 1, number, number);
        }
    }

    @Says("of floats their bits (as an int),")
    static void p02_floatsTakeTheirBitsAsAnInt(Due due) {
        float[] numbers = {0.0f, -0.0f, 1.0f, -1.5f, 0.1f, Float.MIN_VALUE, -Float.MIN_VALUE, Float.MIN_NORMAL,
            Math.nextDown(Float.MIN_NORMAL), Float.MAX_VALUE, -Float.MAX_VALUE, 16777216f, 3.3e-20f};
        for (float number : numbers) {
            held(due, 2, Due.f(number), Due.f(number));
            held(due, 2, Due.f(number) & 0xffffffffL, Due.f(number));
            held(due, 2, Due.f(number) ^ (1L << 40), Due.f(number));
        }
    }

    @Says("of doubles theirs.")
    static void p02_doublesTakeTheirBits(Due due) {
        double[] numbers = {0.0, -0.0, 1.0, -1.5, 0.1, Double.MIN_VALUE, -Double.MIN_VALUE, Double.MIN_NORMAL,
            Math.nextDown(Double.MIN_NORMAL), Double.MAX_VALUE, -Double.MAX_VALUE, Math.nextDown(2.0), 1e-300, 1e300};
        for (double number : numbers) {
            held(due, 3, Due.d(number), Due.d(number));
        }
    }

    @Says("NO NUMBER is never taken (OUTSIDE), nor made:")
    static void p02_endlessIsANumberAndTaken(Due due) {
        held(due, 2, Due.f((float) ENDLESS), Due.f((float) ENDLESS));
        held(due, 2, Due.f((float) -ENDLESS), Due.f((float) -ENDLESS));
        held(due, 3, Due.d(ENDLESS), Due.d(ENDLESS));
        held(due, 3, Due.d(-ENDLESS), Due.d(-ENDLESS));
    }

    @Says("UNKNOWN;")
    static void p02_unknownMeter(Due due) {
        for (int meter : Due.beyond(10)) {
            for (int lane = 0; lane < 4; lane++) {
                int ofLane = lane;
                due.refused("set(" + meter + ", " + lane + ", 1)", RopeDrums.UNKNOWN, x -> x.set(meter, ofLane, 1));
            }
        }
    }

    @Says("OUTSIDE: lane,")
    static void p02_laneOutside(Due due) {
        for (int lane : Due.beyond(4)) {
            due.refused("set(1, " + lane + ", 1)", RopeDrums.OUTSIDE, x -> x.set(1, lane, 1));
        }
    }

    @Says({"OUTSIDE: lane, no number.", "NO NUMBER is never taken (OUTSIDE),"})
    static void p02_noFloatIsOutside(Due due) {
        long[] none = {0x7f800001L, 0x7fc00000L, 0x7fffffffL, 0xff800001L, 0xffffffffL, -1L, -8388607L, 0x17f800001L};
        for (long bits : none) {
            due.refused("set(1, 2, " + bits + ")", RopeDrums.OUTSIDE, x -> x.set(1, 2, bits));
        }
    }

    @Says({"OUTSIDE: lane, no number.", "NO NUMBER is never taken (OUTSIDE),"})
    static void p02_noDoubleIsOutside(Due due) {
        long[] none = {0x7ff0000000000001L, 0x7ff8000000000000L, Long.MAX_VALUE, -1L, -4503599627370495L};
        for (long bits : none) {
            due.refused("set(1, 3, " + bits + ")", RopeDrums.OUTSIDE, x -> x.set(1, 3, bits));
        }
    }

    @Says("no number.")
    static void p02_bitsThatAreNoNumberElsewhereAreOneHere(Due due) {
        held(due, 0, 0x7fc00000L, 0x7fc00000L);
        held(due, 1, 0x7ff8000000000000L, 0x7ff8000000000000L);
        held(due, 1, -1L, -1L);
        held(due, 2, 0x7ff8000000000000L, 0);
        held(due, 3, 0x7fc00000L, 0x7fc00000L);
    }

    @Says("of several the first that the call tells.")
    static void p02_unknownIsToldAheadOfOutside(Due due) {
        for (int meter : Due.beyond(10)) {
            due.refused("set, lane wrong too", RopeDrums.UNKNOWN, x -> x.set(meter, 4, 1));
            due.refused("set, no number too", RopeDrums.UNKNOWN, x -> x.set(meter, 3, Due.d(Double.NaN)));
        }
    }
}
