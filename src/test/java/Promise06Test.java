/** Promise 6: reckon, and what OF TWO means. */
public final class Promise06Test {
    private static final double ENDLESS = Walk.ENDLESS;
    private static final int LEAST = Integer.MIN_VALUE;
    private static final int MOST = Integer.MAX_VALUE;

    public static void main(String[] args) {
        Promises.run(Promise06Test.class);
    }

    private static void made(Due due, int act, int xLane, long xBits, int yLane, long yBits, int lane, long want) {
        RopeDrums x = new RopeDrums();
        x.set(1, xLane, xBits);
        x.set(2, yLane, yBits);
        x.slow(0, 0);
        String call = "act " + act + " of " + xLane + ":" + xBits + ", " + yLane + ":" + yBits;
        due.is(call, x.reckon(act, 1, 2, 3), lane);
        due.is(call + ", lane", x.lane(3), lane);
        due.is(call + ", bits", x.bits(3), want);
        due.is(call + ", failed", x.failed(), 0);
        due.is(call + ", x", x.bits(1), xBits);
        due.is(call + ", y", x.bits(2), yBits);
    }

    private static void ints(Due due, int act, int a, int b, int want) {
        made(due, act, 0, a, 0, b, 0, want);
    }

    private static void longs(Due due, int act, long a, long b, long want) {
        made(due, act, 1, a, 1, b, 1, want);
    }

    private static void floats(Due due, int act, float a, float b, float want) {
        made(due, act, 2, Due.f(a), 2, Due.f(b), 2, Due.f(want));
    }

    private static void doubles(Due due, int act, double a, double b, double want) {
        made(due, act, 3, Due.d(a), 3, Due.d(b), 3, Due.d(want));
    }

    /** Numbers that floats hold, too: of doubles, of floats, and of one of each. */
    private static void reals(Due due, int act, double a, double b, double want) {
        doubles(due, act, a, b, want);
        floats(due, act, (float) a, (float) b, (float) want);
        made(due, act, 2, Due.f((float) a), 3, Due.d(b), 3, Due.d(want));
        made(due, act, 3, Due.d(a), 2, Due.f((float) b), 3, Due.d(want));
    }

    private static void fails(Due due, int act, int xLane, long xBits, int yLane, long yBits, int failure) {
        String call = "act " + act + " of " + xLane + ":" + xBits + ", " + yLane + ":" + yBits;
        due.fails(call, failure, x -> {
            x.set(1, xLane, xBits);
            x.set(2, yLane, yBits);
        }, x -> x.reckon(act, 1, 2, 3));
    }

    private static void isVoid(Due due, int act, double a, double b) {
        fails(due, act, 3, Due.d(a), 3, Due.d(b), 5);
        fails(due, act, 2, Due.f((float) a), 2, Due.f((float) b), 5);
    }

    @Says("METER into holds (act = 0) x + y,")
    static void p06_act0Adds(Due due) {
        ints(due, 0, 5, -7, -2);
        longs(due, 0, 5, 1L << 40, (1L << 40) + 5);
        reals(due, 0, 5.5, -7.25, -1.75);
    }

    @Says("1 x - y,")
    static void p06_act1TakesAway(Due due) {
        ints(due, 1, 5, -7, 12);
        longs(due, 1, 5, 1L << 40, 5 - (1L << 40));
        reals(due, 1, 5.5, 7.25, -1.75);
    }

    @Says("2 x * y,")
    static void p06_act2Multiplies(Due due) {
        ints(due, 2, 5, -7, -35);
        longs(due, 2, 5, 1L << 40, 5L << 40);
        reals(due, 2, 5.5, -7.25, -39.875);
    }

    @Says("3 x / y (ints, longs: cut towards 0),")
    static void p06_act3DividesWholesCutTowards0(Due due) {
        for (int sign = -1; sign <= 1; sign += 2) {
            ints(due, 3, sign * 7, 2, sign * 3);
            ints(due, 3, 7, sign * 2, sign * 3);
            ints(due, 3, sign, 2, 0);
            longs(due, 3, sign * 7, 2, sign * 3);
            longs(due, 3, sign * ((1L << 40) + 1), 2, sign * (1L << 39));
            longs(due, 3, 1, sign * 2, 0);
        }
        ints(due, 3, 0, 5, 0);
        longs(due, 3, 0, -5, 0);
    }

    @Says("3 x / y")
    static void p06_act3DividesFloatsAndDoublesWithoutACut(Due due) {
        reals(due, 3, 7.0, 2.0, 3.5);
        reals(due, 3, 7.0, -2.0, -3.5);
        doubles(due, 3, 1.0, 3.0, 1.0 / 3.0);
        floats(due, 3, 1f, 3f, 1f / 3f);
    }

    @Says("4 what is left of x by y: x less y times the whole number that x / y, exactly, is when it is cut towards 0")
    static void p06_act4IsWhatIsLeft(Due due) {
        int[][] left = {{7, 2, 1}, {-7, 2, -1}, {7, -2, 1}, {-7, -2, -1}, {6, 2, 0}, {1, 5, 1}, {-1, 5, -1}, {5, 5, 0}};
        for (int[] row : left) {
            ints(due, 4, row[0], row[1], row[2]);
            longs(due, 4, row[0], row[1], row[2]);
            longs(due, 4, (1L << 40) * row[0], (1L << 40) * row[1], (1L << 40) * row[2]);
        }
        reals(due, 4, 7.5, 2.0, 1.5);
        reals(due, 4, -7.5, 2.0, -1.5);
        reals(due, 4, 7.5, -2.0, 1.5);
        reals(due, 4, -7.5, -2.0, -1.5);
        reals(due, 4, 1.5, 2.0, 1.5);
        ints(due, 4, 0, 5, 0);
    }

    @Says("that x / y, exactly, is when it is cut towards 0")
    static void p06_act4GoesByTheExactQuotientNotTheRounded(Due due) {
        // 1.0 / 0.1 is rounded to 10.0, but exactly it is less; 0.1f is a little above a tenth, too
        doubles(due, 4, 1.0, 0.1, 0.09999999999999995);
        floats(due, 4, 1f, 0.1f, 0.09999999f);
        doubles(due, 4, Math.nextDown(2.0), 1.0, Math.nextDown(2.0) - 1.0);
        doubles(due, 4, Math.nextDown(1e22), 1e22, Math.nextDown(1e22));
    }

    @Says("(made exactly;")
    static void p06_act4IsMadeExactlyHoweverFarTheTwoLieApart(Due due) {
        double[] numbers = {1.0, 7.5, 0.1, 0.3, 2.0, 3.0, 1e16, 1e300, Double.MAX_VALUE, Double.MIN_VALUE,
            Double.MIN_NORMAL, 3 * Double.MIN_VALUE, Math.nextDown(Double.MIN_NORMAL), Math.nextUp(1.0),
            Math.nextDown(1.0), Math.PI, 1e-310, 1e-300};
        for (double a : numbers) {
            for (double b : numbers) {
                doubles(due, 4, a, b, a % b);
                doubles(due, 4, -a, b, -(a % b));
            }
        }
        doubles(due, 4, Double.MAX_VALUE, 3 * Double.MIN_VALUE, 2 * Double.MIN_VALUE);
        for (int power = 0; power < 1024; power++) {
            double a = Math.scalb(1.0, power);
            doubles(due, 4, a, 7.0, new double[] {1.0, 2.0, 4.0}[power % 3]);
        }
    }

    @Says("(made exactly;")
    static void p06_act4OfFloatsIsMadeExactly(Due due) {
        float[] numbers = {1f, 7.5f, 0.1f, 3f, 1e38f, Float.MAX_VALUE, Float.MIN_VALUE, Float.MIN_NORMAL,
            5 * Float.MIN_VALUE, Math.nextDown(1f)};
        for (float a : numbers) {
            for (float b : numbers) {
                floats(due, 4, a, b, a % b);
                floats(due, 4, -a, b, -(a % b));
            }
        }
    }

    @Says("with the sign of x, 0.0 too;")
    static void p06_act4OfNothingLeftHasTheSignOfX(Due due) {
        reals(due, 4, 6.0, 2.0, 0.0);
        reals(due, 4, 6.0, -2.0, 0.0);
        reals(due, 4, -6.0, 2.0, -0.0);
        reals(due, 4, -6.0, -2.0, -0.0);
    }

    @Says("with the sign of x, 0.0 too;")
    static void p06_act4Of0KeepsTheSignOf0(Due due) {
        reals(due, 4, 0.0, 2.0, 0.0);
        reals(due, 4, 0.0, -2.0, 0.0);
        reals(due, 4, -0.0, 2.0, -0.0);
        reals(due, 4, -0.0, -2.0, -0.0);
        reals(due, 4, -0.0, Float.MIN_VALUE, -0.0);
        reals(due, 4, 0.0, -Float.MIN_VALUE, 0.0);
        for (double least : new double[] {Double.MIN_VALUE, Double.MIN_NORMAL, Double.MAX_VALUE}) {
            doubles(due, 4, -0.0, least, -0.0);
            doubles(due, 4, 0.0, -least, 0.0);
        }
    }

    @Says("y endless and x not: x)")
    static void p06_act4ByEndlessIsX(Due due) {
        double[] numbers = {0.0, -0.0, 5.5, -5.5, Float.MAX_VALUE, -Float.MAX_VALUE, Float.MIN_VALUE};
        for (double x : numbers) {
            reals(due, 4, x, ENDLESS, x);
            reals(due, 4, x, -ENDLESS, x);
        }
        doubles(due, 4, Double.MAX_VALUE, ENDLESS, Double.MAX_VALUE);
        made(due, 4, 0, -3, 2, Due.f((float) ENDLESS), 2, Due.f(-3f));
    }

    @Says({": its LANE.", "both are TURNED into the LANE of theirs that has the greater number;"})
    static void p06_greaterLaneOfTheTwo(Due due) {
        long[] six = {6, 6, Due.f(6f), Due.d(6.0)};
        long[] two = {2, 2, Due.f(2f), Due.d(2.0)};
        long[] three = {3, 3, Due.f(3f), Due.d(3.0)};
        for (int xLane = 0; xLane < 4; xLane++) {
            for (int yLane = 0; yLane < 4; yLane++) {
                int lane = Math.max(xLane, yLane);
                made(due, 3, xLane, six[xLane], yLane, two[yLane], lane, three[lane]);
            }
        }
    }

    @Says({"OF TWO METERS' numbers x, y",
        "OF TWO numbers both are TURNED into the LANE of theirs that has the greater number; there what is told is made:"})
    static void p06_bothAreTurnedAheadOfTheAct(Due due) {
        made(due, 0, 0, MOST, 1, 1, 1, 2147483648L);
        made(due, 2, 1, 2147483648L, 0, 2, 1, 4294967296L);
        made(due, 1, 0, 16777217, 2, Due.f(0f), 2, Due.f(16777216f));
        made(due, 1, 2, Due.f(0f), 0, 16777217, 2, Due.f(-16777216f));
        made(due, 1, 0, 16777217, 3, Due.d(0), 3, Due.d(16777217.0));
        made(due, 0, 2, Due.f(0.1f), 3, Due.d(0.1), 3, Due.d((double) 0.1f + 0.1));
        made(due, 1, 1, 9007199254740993L, 3, Due.d(1), 3, Due.d(9007199254740991.0));
        made(due, 0, 1, Walk.TWICE, 2, Due.f(0f), 2, Due.f(0x1.000002p60f));
        made(due, 0, 2, Due.f(0f), 1, Walk.TWICE, 2, Due.f(0x1.000002p60f));
        made(due, 4, 1, Walk.TWICE, 2, Due.f(0x1p60f), 2, Due.f(0x1p37f));
    }

    @Says("rounded to it, as usual;")
    static void p06_floatsAreRoundedToFloats(Due due) {
        floats(due, 0, 0.1f, 0.2f, 0.1f + 0.2f);
        floats(due, 0, 16777216f, 1f, 16777216f);
        floats(due, 1, 5.5f, 0.1f, 5.5f - 0.1f);
        floats(due, 2, 1.1f, 1.1f, 1.1f * 1.1f);
        floats(due, 2, 1e-30f, 1e-10f, 1e-30f * 1e-10f);
        floats(due, 2, Float.MIN_VALUE, -0.5f, -0.0f);
    }

    @Says("rounded to it, as usual;")
    static void p06_doublesAreRoundedToDoubles(Due due) {
        doubles(due, 0, 0.1, 0.2, 0.30000000000000004);
        doubles(due, 0, 0x1p53, 1.0, 0x1p53);
        doubles(due, 1, 5.5, 0.1, 5.5 - 0.1);
        doubles(due, 2, 1.1, 1.1, 1.1 * 1.1);
        doubles(due, 2, 1e-200, 1e-120, 1e-200 * 1e-120);
        doubles(due, 2, Double.MIN_VALUE, -0.5, -0.0);
    }

    @Says("rounded to it, as usual;")
    static void p06_signOf0IsAsUsual(Due due) {
        reals(due, 0, -0.0, -0.0, -0.0);
        reals(due, 0, -0.0, 0.0, 0.0);
        reals(due, 1, 0.0, 0.0, 0.0);
        reals(due, 1, -0.0, 0.0, -0.0);
        reals(due, 2, -0.0, 5.0, -0.0);
        reals(due, 3, 0.0, -5.0, -0.0);
        reals(due, 3, -1.0, ENDLESS, -0.0);
    }

    @Says("rounded to it, as usual;")
    static void p06_tooLargeIsEndless(Due due) {
        doubles(due, 0, Double.MAX_VALUE, Double.MAX_VALUE, ENDLESS);
        doubles(due, 1, -Double.MAX_VALUE, Double.MAX_VALUE, -ENDLESS);
        doubles(due, 2, 1e200, -1e200, -ENDLESS);
        doubles(due, 3, 1e200, 1e-200, ENDLESS);
        floats(due, 0, Float.MAX_VALUE, Float.MAX_VALUE, (float) ENDLESS);
        floats(due, 1, -Float.MAX_VALUE, Float.MAX_VALUE, (float) -ENDLESS);
        floats(due, 2, 1e30f, -1e30f, (float) -ENDLESS);
        floats(due, 3, 1e30f, 1e-30f, (float) ENDLESS);
    }

    @Says("rounded to it, as usual;")
    static void p06_endlessGoesOn(Due due) {
        reals(due, 0, ENDLESS, ENDLESS, ENDLESS);
        reals(due, 0, -ENDLESS, 1.0, -ENDLESS);
        reals(due, 0, 1.0, ENDLESS, ENDLESS);
        reals(due, 1, ENDLESS, -ENDLESS, ENDLESS);
        reals(due, 1, -ENDLESS, ENDLESS, -ENDLESS);
        reals(due, 1, 1.0, ENDLESS, -ENDLESS);
        reals(due, 1, ENDLESS, 1.0, ENDLESS);
        reals(due, 2, -ENDLESS, ENDLESS, -ENDLESS);
        reals(due, 2, 0.5, -ENDLESS, -ENDLESS);
        reals(due, 3, ENDLESS, -2.0, -ENDLESS);
        reals(due, 3, 3.0, ENDLESS, 0.0);
        reals(due, 3, 0.0, ENDLESS, 0.0);
    }

    @Says("ints, longs wrap.")
    static void p06_intsWrap(Due due) {
        ints(due, 0, MOST, 1, LEAST);
        ints(due, 0, LEAST, LEAST, 0);
        ints(due, 1, LEAST, 1, MOST);
        ints(due, 1, 0, LEAST, LEAST);
        ints(due, 2, 65536, 65536, 0);
        ints(due, 2, 65536, 65537, 65536);
        ints(due, 2, LEAST, -1, LEAST);
        ints(due, 2, MOST, MOST, 1);
    }

    @Says("ints, longs wrap.")
    static void p06_longsWrap(Due due) {
        longs(due, 0, Long.MAX_VALUE, 1, Long.MIN_VALUE);
        longs(due, 1, Long.MIN_VALUE, 1, Long.MAX_VALUE);
        longs(due, 2, 1L << 32, 1L << 32, 0);
        longs(due, 2, Long.MAX_VALUE, 3, Long.MAX_VALUE - 2);
        longs(due, 2, Long.MIN_VALUE, -1, Long.MIN_VALUE);
    }

    @Says("ints, longs wrap.")
    static void p06_leastByMinus1Wraps(Due due) {
        ints(due, 3, LEAST, -1, LEAST);
        ints(due, 4, LEAST, -1, 0);
        longs(due, 3, Long.MIN_VALUE, -1, Long.MIN_VALUE);
        longs(due, 4, Long.MIN_VALUE, -1, 0);
        made(due, 3, 0, LEAST, 1, -1, 1, 2147483648L);
    }

    @Says("METER into holds")
    static void p06_intoMayBeXOrY(Due due) {
        RopeDrums x = new RopeDrums();
        x.set(4, 2, Due.f(1.5f));
        due.is("x + x into x", x.reckon(0, 4, 4, 4), 2);
        due.is("in x", x.bits(4), Due.f(3f));
        x.set(5, 0, 2);
        due.is("x / y into y", x.reckon(3, 4, 5, 5), 2);
        due.is("in y", x.bits(5), Due.f(1.5f));
        due.is("x - y into x", x.reckon(1, 4, 5, 4), 2);
        due.is("in x", x.bits(4), Due.f(1.5f));
    }

    @Says("METER into holds")
    static void p06_everyMeterMayBeUsed(Due due) {
        for (int meter = 0; meter < 10; meter++) {
            RopeDrums x = new RopeDrums();
            int other = (meter + 1) % 10;
            x.set(meter, 0, 5);
            due.is("x " + meter, x.reckon(1, meter, other, other), 0);
            due.is("made", x.bits(other), 5);
            due.is("y, into " + meter, x.reckon(0, other, meter, meter), 0);
            due.is("made", x.bits(meter), 10);
        }
    }

    @Says("UNKNOWN;")
    static void p06_unknownMeters(Due due) {
        for (int meter : Due.beyond(10)) {
            due.refused("reckon(0, " + meter + ", 1, 2)", RopeDrums.UNKNOWN, x -> x.reckon(0, meter, 1, 2));
            due.refused("reckon(0, 1, " + meter + ", 2)", RopeDrums.UNKNOWN, x -> x.reckon(0, 1, meter, 2));
            due.refused("reckon(0, 1, 2, " + meter + ")", RopeDrums.UNKNOWN, x -> x.reckon(0, 1, 2, meter));
        }
    }

    @Says("OUTSIDE: act.")
    static void p06_actOutside(Due due) {
        for (int act : Due.beyond(5)) {
            due.refused("reckon(" + act + ", 1, 2, 3)", RopeDrums.OUTSIDE, x -> x.reckon(act, 1, 2, 3));
        }
    }

    @Says("of several the first that the call tells.")
    static void p06_unknownIsToldAheadOfOutside(Due due) {
        for (int act : Due.beyond(5)) {
            due.refused("x and act", RopeDrums.UNKNOWN, x -> x.reckon(act, 10, 2, 3));
            due.refused("y and act", RopeDrums.UNKNOWN, x -> x.reckon(act, 1, -1, 3));
            due.refused("into and act", RopeDrums.UNKNOWN, x -> x.reckon(act, 1, 2, 10));
        }
    }

    @Says("REFUSALS are not counted, and come ahead of FAILURES:")
    static void p06_refusalsComeAheadOfZeroAndVoid(Due due) {
        due.refused("into, ahead of ZERO", RopeDrums.UNKNOWN, x -> x.reckon(3, 0, 0, 10));
        due.refused("into, ahead of VOID", RopeDrums.UNKNOWN, x -> x.reckon(4, 5, 5, -1));
        due.refused("act, with a y that is 0", RopeDrums.OUTSIDE, x -> x.reckon(5, 0, 0, 0));
        due.refused("act, with an endless x", RopeDrums.OUTSIDE, x -> x.reckon(-1, 5, 5, 5));
    }

    @Says({"ZERO: act 3, 4 of ints, longs, y is 0;", "-14 ZERO (an int or long by 0),"})
    static void p06_wholesBy0FailByZero(Due due) {
        for (int xLane = 0; xLane <= 1; xLane++) {
            for (int yLane = 0; yLane <= 1; yLane++) {
                fails(due, 3, xLane, 5, yLane, 0, 4);
                fails(due, 3, xLane, 0, yLane, 0, 4);
                fails(due, 4, xLane, -5, yLane, 0, 4);
                fails(due, 4, xLane, 0, yLane, 0, 4);
            }
        }
    }

    @Says("ZERO: act 3, 4 of ints, longs, y is 0;")
    static void p06_acts0To2By0DoNotFail(Due due) {
        for (int xLane = 0; xLane <= 1; xLane++) {
            for (int yLane = 0; yLane <= 1; yLane++) {
                int lane = Math.max(xLane, yLane);
                made(due, 0, xLane, 5, yLane, 0, lane, 5);
                made(due, 1, xLane, 5, yLane, 0, lane, 5);
                made(due, 2, xLane, 5, yLane, 0, lane, 0);
            }
        }
    }

    @Says("ZERO: act 3, 4 of ints, longs,")
    static void p06_zeroIsOfTheLaneInWhichItIsMade(Due due) {
        made(due, 3, 2, Due.f(5f), 0, 0, 2, Due.f((float) ENDLESS));
        made(due, 3, 0, 5, 2, Due.f(-0.0f), 2, Due.f((float) -ENDLESS));
        made(due, 3, 3, Due.d(-5.0), 1, 0, 3, Due.d(-ENDLESS));
        fails(due, 3, 0, 0, 2, Due.f(0.0f), 5);
        fails(due, 4, 3, Due.d(5.0), 0, 0, 5);
        fails(due, 4, 1, 5, 3, Due.d(0.0), 5);
        fails(due, 4, 2, Due.f(5f), 1, 0, 5);
    }

    @Says("where it would be the outcome, the call fails by VOID.")
    static void p06_endlessAgainstEndlessIsVoid(Due due) {
        for (double sign : new double[] {1.0, -1.0}) {
            isVoid(due, 0, sign * ENDLESS, -sign * ENDLESS);
            isVoid(due, 1, sign * ENDLESS, sign * ENDLESS);
            isVoid(due, 3, sign * ENDLESS, ENDLESS);
            isVoid(due, 3, sign * ENDLESS, -ENDLESS);
        }
    }

    @Says("where it would be the outcome, the call fails by VOID.")
    static void p06_endlessTimes0IsVoid(Due due) {
        for (double sign : new double[] {1.0, -1.0}) {
            isVoid(due, 2, sign * ENDLESS, 0.0);
            isVoid(due, 2, sign * ENDLESS, -0.0);
            isVoid(due, 2, 0.0, sign * ENDLESS);
            isVoid(due, 2, -0.0, sign * ENDLESS);
        }
        fails(due, 2, 0, 0, 3, Due.d(ENDLESS), 5);
        fails(due, 2, 2, Due.f((float) ENDLESS), 1, 0, 5);
    }

    @Says("where it would be the outcome, the call fails by VOID.")
    static void p06_0By0IsVoid(Due due) {
        for (double sign : new double[] {1.0, -1.0}) {
            isVoid(due, 3, sign * 0.0, 0.0);
            isVoid(due, 3, sign * 0.0, -0.0);
        }
    }

    @Says("VOID (floats, doubles:")
    static void p06_otherNumbersBy0AreEndlessNotVoid(Due due) {
        reals(due, 3, 1.0, 0.0, ENDLESS);
        reals(due, 3, 1.0, -0.0, -ENDLESS);
        reals(due, 3, -1.0, 0.0, -ENDLESS);
        reals(due, 3, Float.MIN_VALUE, 0.0, ENDLESS);
        reals(due, 3, ENDLESS, 0.0, ENDLESS);
        reals(due, 3, -ENDLESS, 0.0, -ENDLESS);
    }

    @Says("VOID (floats, doubles: also act 4 of an endless x,")
    static void p06_act4OfEndlessIsVoid(Due due) {
        for (double sign : new double[] {1.0, -1.0}) {
            isVoid(due, 4, sign * ENDLESS, 2.0);
            isVoid(due, 4, sign * ENDLESS, ENDLESS);
            isVoid(due, 4, sign * ENDLESS, -ENDLESS);
            isVoid(due, 4, sign * ENDLESS, 0.0);
        }
        fails(due, 4, 2, Due.f((float) ENDLESS), 0, 7, 5);
    }

    @Says("or by 0.0).")
    static void p06_act4By0IsVoid(Due due) {
        for (double sign : new double[] {1.0, -1.0}) {
            isVoid(due, 4, 3.0, sign * 0.0);
            isVoid(due, 4, -3.0, sign * 0.0);
            isVoid(due, 4, 0.0, sign * 0.0);
            isVoid(due, 4, -0.0, sign * 0.0);
        }
    }

    @Says("VOID (floats, doubles: also act 4 of an endless x,")
    static void p06_greatestNumbersAreNotEndless(Due due) {
        doubles(due, 4, Double.MAX_VALUE, Double.MAX_VALUE, 0.0);
        doubles(due, 4, -Double.MAX_VALUE, 2.0, -0.0);
        doubles(due, 4, 1.5, Double.MAX_VALUE, 1.5);
        floats(due, 4, Float.MAX_VALUE, Float.MAX_VALUE, 0f);
        floats(due, 4, -Float.MAX_VALUE, 2f, -0f);
        doubles(due, 1, Double.MAX_VALUE, Double.MAX_VALUE, 0.0);
        doubles(due, 3, Double.MAX_VALUE, Double.MAX_VALUE, 1.0);
        doubles(due, 2, -Double.MAX_VALUE, 0.0, -0.0);
    }

    @Says("The call that fails answers it, counts it, and changes nothing else.")
    static void p06_failingIntoXChangesNothing(Due due) {
        due.fails("ZERO into x", 4, x -> x.reckon(3, 1, 0, 1));
        due.fails("ZERO into y", 4, x -> x.reckon(4, 2, 0, 0));
        due.fails("VOID into x", 5, x -> x.reckon(1, 5, 5, 5));
        due.fails("VOID of floats into y", 5, x -> x.reckon(4, 6, 3, 3));
    }
}
