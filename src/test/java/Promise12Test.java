/** Promise 12: write. */
public final class Promise12Test {
    private static final double ENDLESS = Walk.ENDLESS;

    public static void main(String[] args) {
        Promises.run(Promise12Test.class);
    }

    /** What stands at place 1 of 3 after it was written there, in a log of floats and in one of doubles. */
    private static void written(Due due, int lane, long bits, float asFloat, double asDouble) {
        for (int log = 0; log < 8; log++) {
            RopeDrums x = new RopeDrums();
            x.log(log, 3);
            x.set(5, lane, bits);
            x.at(0, 0);
            String call = "write(" + log + ", 1, 5) of " + lane + ":" + bits;
            due.is(call, x.write(log, 1, 5), 1);
            due.is(call + ", failed", x.failed(), 0);
            due.is(call + ", the meter's lane", x.lane(5), lane);
            due.is(call + ", the meter's bits", x.bits(5), bits);
            x.read(log, 1, 6);
            due.is(call + ", what stands there", x.bits(6), log < 4 ? Due.f(asFloat) : Due.d(asDouble));
            due.is(call + ", ahead of it", x.read(log, 0, 6) < 0 ? -1 : x.bits(6), 0);
            due.is(call + ", behind it", x.read(log, 2, 6) < 0 ? -1 : x.bits(6), 0);
        }
    }

    @Says("What a METER holds, TURNED into the LANE of a LOG, comes to place i of it: 1.")
    static void p12_everyLaneIsTurnedIntoThatOfTheLog(Due due) {
        written(due, 0, 16777217, 16777216f, 16777217.0);
        written(due, 1, 9007199254740993L, 9007199254740992f, 9007199254740992.0);
        written(due, 1, Walk.TWICE, 0x1.000002p60f, 0x1.000001p60);
        written(due, 2, Due.f(0.1f), 0.1f, (double) 0.1f);
        written(due, 3, Due.d(0.1), 0.1f, 0.1);
    }

    @Says("TURNED into the LANE of a LOG,")
    static void p12_numbersAtTheEdgesOfTheFloats(Due due) {
        written(due, 3, Due.d(1e300), (float) ENDLESS, 1e300);
        written(due, 3, Due.d(-1e300), (float) -ENDLESS, -1e300);
        written(due, 3, Due.d(1e-320), 0f, 1e-320);
        written(due, 3, Due.d(-1e-320), -0f, -1e-320);
        written(due, 3, Due.d(-0.0), -0f, -0.0);
        written(due, 3, Due.d(ENDLESS), (float) ENDLESS, ENDLESS);
        written(due, 2, Due.f((float) -ENDLESS), (float) -ENDLESS, -ENDLESS);
        written(due, 2, Due.f(Float.MIN_VALUE), Float.MIN_VALUE, (double) Float.MIN_VALUE);
    }

    @Says("comes to place i of it: 1.")
    static void p12_firstAndLastPlace(Due due) {
        for (int log = 0; log < 8; log++) {
            RopeDrums x = new RopeDrums();
            x.log(log, 16);
            for (int i = 0; i < 16; i++) {
                x.set(0, 0, 100 + i);
                due.is("write " + i, x.write(log, i, 0), 1);
            }
            for (int i = 0; i < 16; i++) {
                due.is("place " + i, x.whole(log, i), 100 + i);
            }
        }
    }

    @Says("UNKNOWN.")
    static void p12_unknownLog(Due due) {
        for (int log : Due.beyond(8)) {
            due.refused("write(" + log + ", 0, 1)", RopeDrums.UNKNOWN, x -> x.write(log, 0, 1));
        }
    }

    @Says("UNKNOWN.")
    static void p12_unknownMeter(Due due) {
        for (int meter : Due.beyond(10)) {
            due.refused("write(0, 0, " + meter + ")", RopeDrums.UNKNOWN, x -> x.write(0, 0, meter));
            due.refused("write(4, 0, " + meter + ")", RopeDrums.UNKNOWN, x -> x.write(4, 0, meter));
        }
    }

    @Says("REFUSALS are not counted, and come ahead of FAILURES:")
    static void p12_unknownMeterIsToldAheadOfMissingAndPlace(Due due) {
        due.refused("a missing log", RopeDrums.UNKNOWN, x -> x.write(3, 0, 10));
        due.refused("no such place", RopeDrums.UNKNOWN, x -> x.write(0, 3, -1));
    }

    @Says({"MISSING,", "-11 MISSING (nothing is there),"})
    static void p12_missingLog(Due due) {
        due.fails("write(3, 0, 1)", 1, x -> x.write(3, 0, 1));
        due.fails("write(7, 0, 1)", 1, x -> x.write(7, 0, 1));
    }

    @Says("MISSING, PLACE.")
    static void p12_missingIsToldAheadOfPlace(Due due) {
        for (int i : Due.beyond(16)) {
            due.fails("write(3, " + i + ", 1)", 1, x -> x.write(3, i, 1));
            due.fails("write(7, " + i + ", 1)", 1, x -> x.write(7, i, 1));
        }
    }

    @Says({"PLACE.", "-12 PLACE (no such one),"})
    static void p12_noSuchPlace(Due due) {
        for (int i : Due.beyond(3)) {
            due.fails("write(0, " + i + ", 1)", 2, x -> x.write(0, i, 1));
            due.fails("write(4, " + i + ", 1)", 2, x -> x.write(4, i, 1));
        }
        for (int i : Due.beyond(16)) {
            due.fails("write(2, " + i + ", 1)", 2, x -> x.write(2, i, 1));
            due.fails("write(6, " + i + ", 1)", 2, x -> x.write(6, i, 1));
        }
    }

    @Says("PLACE.")
    static void p12_noPlaceInARowOf0(Due due) {
        for (int i : new int[] {-1, 0, 1}) {
            due.fails("write(1, " + i + ", 1)", 2, x -> x.write(1, i, 1));
            due.fails("write(5, " + i + ", 1)", 2, x -> x.write(5, i, 1));
        }
    }
}
