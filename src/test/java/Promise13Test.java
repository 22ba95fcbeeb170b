/** Promise 13: read. */
public final class Promise13Test {
    private static final double ENDLESS = Walk.ENDLESS;

    public static void main(String[] args) {
        Promises.run(Promise13Test.class);
    }

    @Says({"A METER holds what stands at place i of a LOG: its LANE.", "LOGS 0 .. 3 are of floats, 4 .. 7 of doubles:"})
    static void p13_laneIsThatOfTheLog(Due due) {
        for (int log = 0; log < 8; log++) {
            RopeDrums x = new RopeDrums();
            x.log(log, 1);
            x.at(0, 0);
            due.is("read(" + log + ", 0, 9)", x.read(log, 0, 9), log < 4 ? 2 : 3);
            due.is("failed", x.failed(), 0);
            due.is("lane", x.lane(9), log < 4 ? 2 : 3);
        }
    }

    @Says("A METER holds what stands at place i of a LOG:")
    static void p13_whatStandsThereIsNotChanged(Due due) {
        float[] numbers = {0.1f, -0.0f, 0.0f, Float.MIN_VALUE, -Float.MAX_VALUE, (float) ENDLESS, (float) -ENDLESS};
        for (int log = 0; log < 8; log++) {
            for (float number : numbers) {
                RopeDrums x = new RopeDrums();
                x.log(log, 2);
                x.set(0, 2, Due.f(number));
                x.write(log, 1, 0);
                for (int again = 0; again < 2; again++) {
                    x.read(log, 1, 1);
                    due.is("read " + number, x.bits(1), log < 4 ? Due.f(number) : Due.d(number));
                }
            }
        }
    }

    @Says("at place i of a LOG:")
    static void p13_firstAndLastPlaceIntoEveryMeter(Due due) {
        for (int log = 0; log < 8; log++) {
            RopeDrums x = new RopeDrums();
            x.log(log, 16);
            for (int i = 0; i < 16; i++) {
                x.set(0, 0, 100 + i);
                x.write(log, i, 0);
            }
            for (int i = 0; i < 16; i++) {
                int meter = i % 10;
                due.is("read " + i, x.read(log, i, meter), log < 4 ? 2 : 3);
                due.is("place " + i, x.bits(meter), log < 4 ? Due.f(100 + i) : Due.d(100 + i));
            }
        }
    }

    @Says("UNKNOWN.")
    static void p13_unknownLog(Due due) {
        for (int log : Due.beyond(8)) {
            due.refused("read(" + log + ", 0, 1)", RopeDrums.UNKNOWN, x -> x.read(log, 0, 1));
        }
    }

    @Says("UNKNOWN.")
    static void p13_unknownMeter(Due due) {
        for (int meter : Due.beyond(10)) {
            due.refused("read(0, 0, " + meter + ")", RopeDrums.UNKNOWN, x -> x.read(0, 0, meter));
            due.refused("read(4, 0, " + meter + ")", RopeDrums.UNKNOWN, x -> x.read(4, 0, meter));
        }
    }

    @Says("REFUSALS are not counted, and come ahead of FAILURES:")
    static void p13_unknownMeterIsToldAheadOfMissingAndPlace(Due due) {
        due.refused("a missing log", RopeDrums.UNKNOWN, x -> x.read(3, 0, 10));
        due.refused("no such place", RopeDrums.UNKNOWN, x -> x.read(0, 3, -1));
    }

    @Says({"MISSING,", "-11 MISSING (nothing is there),"})
    static void p13_missingLog(Due due) {
        due.fails("read(3, 0, 1)", 1, x -> x.read(3, 0, 1));
        due.fails("read(7, 0, 1)", 1, x -> x.read(7, 0, 1));
    }

    @Says("MISSING, PLACE.")
    static void p13_missingIsToldAheadOfPlace(Due due) {
        for (int i : Due.beyond(16)) {
            due.fails("read(3, " + i + ", 1)", 1, x -> x.read(3, i, 1));
            due.fails("read(7, " + i + ", 1)", 1, x -> x.read(7, i, 1));
        }
    }

    @Says({"PLACE.", "-12 PLACE (no such one),"})
    static void p13_noSuchPlace(Due due) {
        for (int i : Due.beyond(3)) {
            due.fails("read(0, " + i + ", 1)", 2, x -> x.read(0, i, 1));
            due.fails("read(4, " + i + ", 1)", 2, x -> x.read(4, i, 1));
        }
        for (int i : Due.beyond(16)) {
            due.fails("read(2, " + i + ", 1)", 2, x -> x.read(2, i, 1));
            due.fails("read(6, " + i + ", 1)", 2, x -> x.read(6, i, 1));
        }
    }

    @Says("PLACE.")
    static void p13_noPlaceInARowOf0(Due due) {
        for (int i : new int[] {-1, 0, 1}) {
            due.fails("read(1, " + i + ", 1)", 2, x -> x.read(1, i, 1));
            due.fails("read(5, " + i + ", 1)", 2, x -> x.read(5, i, 1));
        }
    }
}
