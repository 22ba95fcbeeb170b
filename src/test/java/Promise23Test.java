/** Promise 23: slow. */
public final class Promise23Test {
    private static final double ENDLESS = Walk.ENDLESS;
    private static final int PAD = 0;
    private static final int DRAG = 1;

    public static void main(String[] args) {
        Promises.run(Promise23Test.class);
    }

    private static void slowed(Due due, int sort, double grip, int lane, long bits, double want) {
        RopeDrums x = new RopeDrums();
        String call = (sort == PAD ? "pad of " : "drag of ") + grip + ", " + lane + ":" + bits;
        x.brake(3, sort, Due.d(grip));
        x.set(6, lane, bits);
        x.slow(0, 6);
        due.is(call, x.slow(3, 6), 1);
        due.is(call + ", lane", x.lane(6), 3);
        due.is(call + ", bits", x.bits(6), Due.d(want));
        due.is(call + ", failed", x.failed(), 0);
        due.is(call + ", others", x.lane(5), 0);
    }

    private static void pad(Due due, double grip, double v, double want) {
        slowed(due, PAD, grip, 3, Due.d(v), want);
    }

    private static void drag(Due due, double grip, double v, double want) {
        slowed(due, DRAG, grip, 3, Due.d(v), want);
    }

    private static void isVoid(Due due, int sort, double grip, double v) {
        String call = (sort == PAD ? "pad of " : "drag of ") + grip + ", " + v;
        due.fails(call, 5, x -> {
            x.brake(0, sort, Due.d(grip));
            x.set(1, 3, Due.d(v));
        }, x -> x.slow(0, 1));
        due.fails(call + " as a float", 5, x -> {
            x.brake(3, sort, Due.d(grip));
            x.set(1, 2, Due.f((float) v));
        }, x -> x.slow(3, 1));
    }

    @Says("of a PAD what is left of v by GRIP;")
    static void p23_padIsWhatIsLeft(Due due) {
        pad(due, 2.0, 7.5, 1.5);
        pad(due, 2.0, -7.5, -1.5);
        pad(due, -2.0, 7.5, 1.5);
        pad(due, 2.0, 1.5, 1.5);
        pad(due, 0.1, 1.0, 0.09999999999999995);
    }

    @Says("of a PAD what is left of v by GRIP;")
    static void p23_padIsExactAndADouble(Due due) {
        pad(due, 3.0, 1e300, 1e300 % 3.0);
        pad(due, 3.3e-310, 1e300, 1e300 % 3.3e-310);
        pad(due, Double.MIN_VALUE, 1e300, 0.0);
        pad(due, 1.0, 0.1, 0.1);
        pad(due, Double.MAX_VALUE, 1e300, 1e300);
    }

    @Says("of a PAD what is left of v by GRIP;")
    static void p23_padWithNothingLeftHasTheSignOfV(Due due) {
        pad(due, 2.0, -6.0, -0.0);
        pad(due, -2.0, 6.0, 0.0);
        pad(due, 2.0, -0.0, -0.0);
        pad(due, -2.0, 0.0, 0.0);
        pad(due, Double.MIN_VALUE, -0.0, -0.0);
        pad(due, -Double.MIN_NORMAL, -0.0, -0.0);
    }

    @Says("of a PAD what is left of v by GRIP;")
    static void p23_padOfAnEndlessGrip(Due due) {
        pad(due, ENDLESS, -3.0, -3.0);
        pad(due, -ENDLESS, 3.0, 3.0);
        pad(due, ENDLESS, -0.0, -0.0);
        pad(due, ENDLESS, Double.MAX_VALUE, Double.MAX_VALUE);
    }

    @Says("of a DRAG v / GRIP, TURNED into a float and back: 1.")
    static void p23_dragIsRoundedToAFloat(Due due) {
        drag(due, 2.0, 7.5, 3.75);
        drag(due, 3.0, 1.0, (double) (1f / 3f));
        drag(due, 1.0, 0.1, (double) 0.1f);
        drag(due, 1.0, 16777217.0, 16777216.0);
        drag(due, 1.0, 16777219.0, 16777220.0);
        drag(due, -1.0, 0x1.000003p0, -0x1.000004p0);
    }

    @Says("TURNED into a float and back: 1.")
    static void p23_dragTooLargeForAFloatIsEndless(Due due) {
        drag(due, 1e-39, 1.0, ENDLESS);
        drag(due, 1e-39, -1.0, -ENDLESS);
        drag(due, 1.0, 0x1.ffffffp127, ENDLESS);
        drag(due, 1.0, Float.MAX_VALUE, Float.MAX_VALUE);
        drag(due, 1e-300, 1e300, ENDLESS);
    }

    @Says("TURNED into a float and back: 1.")
    static void p23_dragTooSmallForAFloatIs0OfItsSign(Due due) {
        drag(due, 1e300, 1.0, 0.0);
        drag(due, -1e46, 1.0, -0.0);
        drag(due, 1.0, 0x1p-150, 0.0);
        drag(due, 1.0, Math.nextUp(0x1p-150), Float.MIN_VALUE);
        drag(due, 1.0, 1e-40, (double) 1e-40f);
        drag(due, 1e300, 1e-300, 0.0);
    }

    @Says("of a DRAG v / GRIP,")
    static void p23_dragBy0IsEndless(Due due) {
        drag(due, 0.0, 5.0, ENDLESS);
        drag(due, -0.0, 5.0, -ENDLESS);
        drag(due, 0.0, -Double.MIN_VALUE, -ENDLESS);
        drag(due, 0.0, ENDLESS, ENDLESS);
        drag(due, -0.0, -ENDLESS, ENDLESS);
    }

    @Says("of a DRAG v / GRIP,")
    static void p23_dragOfEndlessAndByEndless(Due due) {
        drag(due, 4.0, -ENDLESS, -ENDLESS);
        drag(due, ENDLESS, -4.0, -0.0);
        drag(due, -ENDLESS, 0.0, -0.0);
        drag(due, ENDLESS, Double.MAX_VALUE, 0.0);
        drag(due, 5.0, -0.0, -0.0);
    }

    @Says("What a METER holds, TURNED into a double v, goes through a BRAKE, and it holds the outcome (a double) then:")
    static void p23_everyLaneIsTurnedIntoADouble(Due due) {
        slowed(due, PAD, 2.5, 0, 8, 0.5);
        slowed(due, DRAG, 2.5, 0, 8, (double) 3.2f);
        slowed(due, PAD, 1000.0, 1, 9007199254740993L, 992.0);
        slowed(due, DRAG, 1.0, 1, 9007199254740993L, 9007199254740992.0);
        slowed(due, PAD, 1.0, 2, Due.f(0.1f), (double) 0.1f);
        slowed(due, DRAG, 2.5, 2, Due.f(0.1f), (double) (float) ((double) 0.1f / 2.5));
        // by way of the double, not straight from the long: rounded twice
        slowed(due, DRAG, 1.0, 1, Walk.TWICE, 0x1p60);
    }

    @Says("What a METER holds,")
    static void p23_everyBrakeAndMeter(Due due) {
        for (int brake = 0; brake < 4; brake++) {
            RopeDrums x = new RopeDrums();
            x.brake(brake, DRAG, Due.d(2.0));
            for (int meter = 0; meter < 10; meter++) {
                x.set(meter, 0, meter);
                due.is("slow(" + brake + ", " + meter + ")", x.slow(brake, meter), 1);
                due.is("its outcome", x.bits(meter), Due.d(meter / 2.0));
            }
        }
    }

    @Says("UNKNOWN.")
    static void p23_unknownBrake(Due due) {
        for (int brake : Due.beyond(4)) {
            due.refused("slow(" + brake + ", 1)", RopeDrums.UNKNOWN, x -> x.slow(brake, 1));
        }
    }

    @Says("UNKNOWN.")
    static void p23_unknownMeter(Due due) {
        for (int meter : Due.beyond(10)) {
            due.refused("slow(0, " + meter + ")", RopeDrums.UNKNOWN, x -> x.slow(0, meter));
        }
    }

    @Says("REFUSALS are not counted, and come ahead of FAILURES:")
    static void p23_unknownIsToldAheadOfMissingAndVoid(Due due) {
        due.refused("slow(3, 10)", RopeDrums.UNKNOWN, x -> x.slow(3, 10));
        due.refused("slow(2, -1)", RopeDrums.UNKNOWN, x -> x.slow(2, -1));
        due.refused("slow(4, 5)", RopeDrums.UNKNOWN, x -> x.slow(4, 5));
    }

    @Says("MISSING;")
    static void p23_missingBrake(Due due) {
        due.fails("slow(3, 1)", 1, x -> x.slow(3, 1));
        due.fails("one that was a pad", 1, x -> x.brake(0, 2, 0), x -> x.slow(0, 1));
    }

    @Says("MISSING; VOID.")
    static void p23_missingIsToldAheadOfVoid(Due due) {
        due.fails("slow(3, 5)", 1, x -> x.slow(3, 5));
        due.fails("one that was a pad of 0.0", 1, x -> x.brake(2, 2, 0), x -> x.slow(2, 5));
    }

    @Says("VOID.")
    static void p23_padOfEndlessIsVoid(Due due) {
        isVoid(due, PAD, 2.0, ENDLESS);
        isVoid(due, PAD, 2.0, -ENDLESS);
        isVoid(due, PAD, ENDLESS, ENDLESS);
        isVoid(due, PAD, ENDLESS, -ENDLESS);
        isVoid(due, PAD, 0.0, ENDLESS);
    }

    @Says("VOID.")
    static void p23_padBy0IsVoid(Due due) {
        isVoid(due, PAD, 0.0, 3.0);
        isVoid(due, PAD, -0.0, 3.0);
        isVoid(due, PAD, 0.0, 0.0);
        isVoid(due, PAD, -0.0, -0.0);
        due.fails("an int, too", 5, x -> x.slow(2, 1));
    }

    @Says("VOID.")
    static void p23_drag0By0IsVoid(Due due) {
        isVoid(due, DRAG, 0.0, 0.0);
        isVoid(due, DRAG, -0.0, 0.0);
        isVoid(due, DRAG, 0.0, -0.0);
        due.fails("the int 0, too", 5, x -> x.brake(1, DRAG, Due.d(0.0)), x -> x.slow(1, 0));
    }

    @Says("VOID.")
    static void p23_dragEndlessByEndlessIsVoid(Due due) {
        isVoid(due, DRAG, ENDLESS, ENDLESS);
        isVoid(due, DRAG, -ENDLESS, ENDLESS);
        isVoid(due, DRAG, ENDLESS, -ENDLESS);
    }
}
