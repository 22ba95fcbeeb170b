/** Promise 5: turn, and what TURNED means. */
public final class Promise05Test {
    private static final double ENDLESS = Walk.ENDLESS;
    /** Half a step beyond the greatest float: as near to it as to what would come next. */
    private static final double HALF_BEYOND = 0x1.ffffffp127;

    public static void main(String[] args) {
        Promises.run(Promise05Test.class);
    }

    private static void turned(Due due, int from, long given, int into, long want) {
        RopeDrums x = new RopeDrums();
        x.set(3, from, given);
        String call = "turned " + given + " from " + from + " into " + into;
        due.is(call, x.turn(3, into), 1);
        due.is(call + ", lane", x.lane(3), into);
        due.is(call + ", bits", x.bits(3), want);
        due.is(call + ", others", x.bits(2), 0);
    }

    private static void wholeInto(Due due, int from, long given, float want) {
        turned(due, from, given, 2, Due.f(want));
        turned(due, from, -given, 2, Due.f(-want));
    }

    private static void narrowed(Due due, double given, float want) {
        turned(due, 3, Due.d(given), 2, Due.f(want));
        turned(due, 3, Due.d(-given), 2, Due.f(-want));
    }

    @Says({"What a METER holds is TURNED into a LANE, and held: 1.", "TURNED from one LANE into another:"})
    static void p05_everyLaneIntoEveryLane(Due due) {
        long[] six = {6, 6, Due.f(6f), Due.d(6.0)};
        for (int from = 0; from < 4; from++) {
            for (int into = 0; into < 4; into++) {
                turned(due, from, six[from], into, six[into]);
            }
        }
    }

    @Says("ints, longs into floats, doubles, and doubles into floats: the nearest")
    static void p05_wholesIntoFloatsAreTheNearest(Due due) {
        for (int from = 0; from <= 1; from++) {
            wholeInto(due, from, 16777216, 16777216f);
            wholeInto(due, from, 33554433, 33554432f);
            wholeInto(due, from, 33554435, 33554436f);
            wholeInto(due, from, 2147483647, 2147483648f);
        }
        turned(due, 0, Integer.MIN_VALUE, 2, Due.f(-2147483648f));
        turned(due, 1, Long.MAX_VALUE, 2, Due.f(0x1p63f));
        turned(due, 1, Long.MIN_VALUE, 2, Due.f(-0x1p63f));
    }

    @Says("(of two as near the one whose last bit is 0;")
    static void p05_wholesAsNearToTwoFloatsTakeTheEvenOne(Due due) {
        for (int from = 0; from <= 1; from++) {
            wholeInto(due, from, 16777217, 16777216f);
            wholeInto(due, from, 16777219, 16777220f);
            wholeInto(due, from, 33554434, 33554432f);
            wholeInto(due, from, 33554438, 33554440f);
        }
        wholeInto(due, 1, (1L << 60) + (1L << 36), 0x1p60f);
        wholeInto(due, 1, (1L << 60) + (3L << 36), 0x1.000004p60f);
    }

    @Says("ints, longs into floats, doubles, and doubles into floats: the nearest")
    static void p05_longsIntoFloatsAreRoundedOnceOnly(Due due) {
        wholeInto(due, 1, Walk.TWICE, 0x1.000002p60f);
        wholeInto(due, 1, (1L << 60) + (3L << 36) - 1, 0x1.000002p60f);
    }

    @Says("ints, longs into floats, doubles, and doubles into floats: the nearest")
    static void p05_longsIntoDoublesAreTheNearest(Due due) {
        turned(due, 1, (1L << 53) - 1, 3, Due.d(9007199254740991.0));
        turned(due, 1, (1L << 54) + 3, 3, Due.d(0x1p54 + 4.0));
        turned(due, 1, (1L << 54) + 1, 3, Due.d(0x1p54));
        turned(due, 1, Long.MAX_VALUE, 3, Due.d(0x1p63));
        turned(due, 1, Long.MIN_VALUE, 3, Due.d(-0x1p63));
    }

    @Says("(of two as near the one whose last bit is 0;")
    static void p05_longsAsNearToTwoDoublesTakeTheEvenOne(Due due) {
        turned(due, 1, (1L << 53) + 1, 3, Due.d(0x1p53));
        turned(due, 1, (1L << 53) + 3, 3, Due.d(0x1p53 + 4.0));
        turned(due, 1, -(1L << 53) - 1, 3, Due.d(-0x1p53));
        turned(due, 1, -(1L << 53) - 3, 3, Due.d(-0x1p53 - 4.0));
    }

    @Says("ints, longs into floats, doubles,")
    static void p05_intsIntoDoublesAreTheSame(Due due) {
        turned(due, 0, Integer.MAX_VALUE, 3, Due.d(2147483647.0));
        turned(due, 0, Integer.MIN_VALUE, 3, Due.d(-2147483648.0));
        turned(due, 0, 0, 3, Due.d(0.0));
        turned(due, 0, 0, 2, Due.f(0.0f));
    }

    @Says("doubles into floats: the nearest")
    static void p05_doublesIntoFloatsAreTheNearest(Due due) {
        narrowed(due, 0.1, 0.1f);
        narrowed(due, Math.nextUp(0x1.000001p0), 0x1.000002p0f);
        narrowed(due, Math.nextDown(0x1.000001p0), 1f);
        narrowed(due, Math.nextUp(0x1.000003p0), 0x1.000004p0f);
        narrowed(due, Math.nextDown(0x1.000003p0), 0x1.000002p0f);
    }

    @Says("(of two as near the one whose last bit is 0;")
    static void p05_doublesAsNearToTwoFloatsTakeTheEvenOne(Due due) {
        narrowed(due, 0x1.000001p0, 1f);
        narrowed(due, 0x1.000003p0, 0x1.000004p0f);
        narrowed(due, 16777217.0, 16777216f);
        narrowed(due, 16777219.0, 16777220f);
    }

    @Says({"doubles into floats: the nearest", "of two as near the one whose last bit is 0;"})
    static void p05_doublesNearTheLeastFloats(Due due) {
        narrowed(due, 0x1p-150, 0.0f);
        narrowed(due, Math.nextUp(0x1p-150), Float.MIN_VALUE);
        narrowed(due, 0x3p-150, 0x2p-149f);
        narrowed(due, Math.nextDown(0x3p-150), Float.MIN_VALUE);
        narrowed(due, Double.MIN_VALUE, 0.0f);
        narrowed(due, 0x1p-126 - 0x1p-150, Float.MIN_NORMAL);
        narrowed(due, 0x1p-126 - 0x1p-149, Math.nextDown(Float.MIN_NORMAL));
    }

    @Says("a double beyond all floats: endless).")
    static void p05_doublesBeyondAllFloatsAreEndless(Due due) {
        narrowed(due, HALF_BEYOND, (float) ENDLESS);
        narrowed(due, 0x1p128, (float) ENDLESS);
        narrowed(due, 1e39, (float) ENDLESS);
        narrowed(due, Double.MAX_VALUE, (float) ENDLESS);
        narrowed(due, ENDLESS, (float) ENDLESS);
    }

    // The document leaves room here: "the nearest" is taken, as the machine's own rounding has it.
    @Says("the nearest")
    static void p05_doublesNearerThanHalfAStepAreTheGreatestFloat(Due due) {
        narrowed(due, Float.MAX_VALUE, Float.MAX_VALUE);
        narrowed(due, Math.nextUp((double) Float.MAX_VALUE), Float.MAX_VALUE);
        narrowed(due, Math.nextDown(HALF_BEYOND), Float.MAX_VALUE);
    }

    @Says("Longs into ints: the lowest 32 bits.")
    static void p05_longsIntoIntsWrap(Due due) {
        turned(due, 1, 2147483647L, 0, 2147483647);
        turned(due, 1, 2147483648L, 0, Integer.MIN_VALUE);
        turned(due, 1, -2147483648L, 0, Integer.MIN_VALUE);
        turned(due, 1, -2147483649L, 0, Integer.MAX_VALUE);
        turned(due, 1, 4294967299L, 0, 3);
        turned(due, 1, Long.MAX_VALUE, 0, -1);
        turned(due, 1, Long.MIN_VALUE, 0, 0);
    }

    @Says("Floats, doubles into ints, longs: what stands ahead of the point,")
    static void p05_whatStandsAheadOfThePoint(Due due) {
        double[][] cuts = {{0.0, 0}, {0.5, 0}, {0.75, 0}, {1.0, 1}, {1.5, 1}, {2.75, 2}, {8388607.5, 8388607}};
        for (double[] cut : cuts) {
            for (int into = 0; into <= 1; into++) {
                turned(due, 2, Due.f((float) cut[0]), into, (long) cut[1]);
                turned(due, 2, Due.f((float) -cut[0]), into, (long) -cut[1]);
                turned(due, 3, Due.d(cut[0]), into, (long) cut[1]);
                turned(due, 3, Due.d(-cut[0]), into, (long) -cut[1]);
            }
        }
        turned(due, 3, Due.d(Math.nextDown(1.0)), 0, 0);
        turned(due, 3, Due.d(Math.nextUp(-1.0)), 1, 0);
        turned(due, 3, Due.d(Double.MIN_VALUE), 1, 0);
        turned(due, 3, Due.d(4503599627370495.5), 1, 4503599627370495L);
    }

    @Says("and that end of the LANE beyond which it lies, if it does")
    static void p05_beyondTheEndsOfTheInts(Due due) {
        turned(due, 3, Due.d(2147483646.5), 0, 2147483646);
        turned(due, 3, Due.d(2147483647.0), 0, 2147483647);
        turned(due, 3, Due.d(2147483647.5), 0, 2147483647);
        turned(due, 3, Due.d(2147483648.0), 0, 2147483647);
        turned(due, 3, Due.d(4294967297.0), 0, 2147483647);
        turned(due, 3, Due.d(1e300), 0, 2147483647);
        turned(due, 3, Due.d(-2147483647.5), 0, -2147483647);
        turned(due, 3, Due.d(-2147483648.0), 0, -2147483648L);
        turned(due, 3, Due.d(-2147483648.5), 0, -2147483648L);
        turned(due, 3, Due.d(-2147483649.0), 0, -2147483648L);
        turned(due, 3, Due.d(-1e300), 0, -2147483648L);
        turned(due, 2, Due.f(2147483520f), 0, 2147483520);
        turned(due, 2, Due.f(2147483648f), 0, 2147483647);
        turned(due, 2, Due.f(-2147483648f), 0, -2147483648L);
        turned(due, 2, Due.f(-Float.MAX_VALUE), 0, -2147483648L);
    }

    @Says("and that end of the LANE beyond which it lies, if it does")
    static void p05_beyondTheEndsOfTheLongs(Due due) {
        turned(due, 3, Due.d(Math.nextDown(0x1p63)), 1, Long.MAX_VALUE - 1023);
        turned(due, 3, Due.d(0x1p63), 1, Long.MAX_VALUE);
        turned(due, 3, Due.d(0x1p64), 1, Long.MAX_VALUE);
        turned(due, 3, Due.d(-0x1p63), 1, Long.MIN_VALUE);
        turned(due, 3, Due.d(Math.nextDown(-0x1p63)), 1, Long.MIN_VALUE);
        turned(due, 3, Due.d(Math.nextUp(-0x1p63)), 1, Long.MIN_VALUE + 1024);
        turned(due, 3, Due.d(-Double.MAX_VALUE), 1, Long.MIN_VALUE);
        turned(due, 2, Due.f(0x1p63f), 1, Long.MAX_VALUE);
        turned(due, 2, Due.f(Math.nextDown(0x1p63f)), 1, Long.MAX_VALUE - (1L << 39) + 1);
        turned(due, 2, Due.f(-Float.MAX_VALUE), 1, Long.MIN_VALUE);
    }

    @Says("(endless, too).")
    static void p05_endlessIntoIntsAndLongsIsTheirEnd(Due due) {
        for (double sign : new double[] {1.0, -1.0}) {
            turned(due, 2, Due.f((float) (sign * ENDLESS)), 0, sign > 0 ? Integer.MAX_VALUE : Integer.MIN_VALUE);
            turned(due, 3, Due.d(sign * ENDLESS), 0, sign > 0 ? Integer.MAX_VALUE : Integer.MIN_VALUE);
            turned(due, 2, Due.f((float) (sign * ENDLESS)), 1, sign > 0 ? Long.MAX_VALUE : Long.MIN_VALUE);
            turned(due, 3, Due.d(sign * ENDLESS), 1, sign > 0 ? Long.MAX_VALUE : Long.MIN_VALUE);
        }
    }

    @Says("All else: the same number.")
    static void p05_intsIntoLongsAreTheSame(Due due) {
        turned(due, 0, Integer.MAX_VALUE, 1, 2147483647L);
        turned(due, 0, Integer.MIN_VALUE, 1, -2147483648L);
    }

    @Says("All else: the same number.")
    static void p05_floatsIntoDoublesAreTheSame(Due due) {
        float[] numbers = {0.0f, -0.0f, 0.1f, -0.1f, Float.MIN_VALUE, -Float.MIN_VALUE, Float.MAX_VALUE,
            (float) ENDLESS, (float) -ENDLESS};
        for (float number : numbers) {
            turned(due, 2, Due.f(number), 3, Due.d((double) number));
        }
    }

    @Says("All else: the same number.")
    static void p05_intoTheirOwnLaneAllAreTheSame(Due due) {
        turned(due, 0, Integer.MIN_VALUE, 0, Integer.MIN_VALUE);
        turned(due, 1, Long.MIN_VALUE, 1, Long.MIN_VALUE);
        turned(due, 1, Walk.TWICE, 1, Walk.TWICE);
        turned(due, 2, Due.f(-0.0f), 2, Due.f(-0.0f));
        turned(due, 2, Due.f(Float.MIN_VALUE), 2, Due.f(Float.MIN_VALUE));
        turned(due, 3, Due.d(-0.0), 3, Due.d(-0.0));
        turned(due, 3, Due.d(Double.MIN_VALUE), 3, Due.d(Double.MIN_VALUE));
        turned(due, 3, Due.d(-ENDLESS), 3, Due.d(-ENDLESS));
    }

    @Says("doubles into floats: the nearest")
    static void p05_theSignOf0IsKept(Due due) {
        narrowed(due, 0.0, 0.0f);
        turned(due, 3, Due.d(-0.0), 2, Due.f(-0.0f));
    }

    @Says("UNKNOWN;")
    static void p05_unknownMeter(Due due) {
        for (int meter : Due.beyond(10)) {
            due.refused("turn(" + meter + ", 0)", RopeDrums.UNKNOWN, x -> x.turn(meter, 0));
        }
    }

    @Says("OUTSIDE.")
    static void p05_laneOutside(Due due) {
        for (int lane : Due.beyond(4)) {
            due.refused("turn(4, " + lane + ")", RopeDrums.OUTSIDE, x -> x.turn(4, lane));
        }
    }

    @Says("of several the first that the call tells.")
    static void p05_unknownIsToldAheadOfOutside(Due due) {
        for (int meter : Due.beyond(10)) {
            due.refused("turn(" + meter + ", 4)", RopeDrums.UNKNOWN, x -> x.turn(meter, 4));
        }
    }
}
