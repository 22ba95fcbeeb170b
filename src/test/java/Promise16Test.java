/** Promise 16: whole. */
public final class Promise16Test {
    private static final double ENDLESS = Walk.ENDLESS;

    public static void main(String[] args) {
        Promises.run(Promise16Test.class);
    }

    private static void whole(Due due, double given, long ofFloats, long ofDoubles) {
        for (int log = 0; log < 8; log++) {
            RopeDrums x = new RopeDrums();
            x.log(log, 2);
            x.set(0, 3, Due.d(given));
            x.write(log, 1, 0);
            x.at(0, 0);
            due.is("whole of " + given + " in log " + log, x.whole(log, 1), log < 4 ? ofFloats : ofDoubles);
            due.is("failed", x.failed(), 0);
            due.is("whole of the place ahead", x.whole(log, 0), 0);
            x.read(log, 1, 2);
            due.is("it still stands there", x.bits(2), log < 4 ? Due.f((float) given) : Due.d(given));
        }
    }

    @Says("Place i of a LOG, TURNED into a long.")
    static void p16_whatStandsAheadOfThePoint(Due due) {
        whole(due, 2.75, 2, 2);
        whole(due, -2.75, -2, -2);
        whole(due, 0.99, 0, 0);
        whole(due, -0.99, 0, 0);
        whole(due, -0.0, 0, 0);
        whole(due, 16777217.0, 16777216, 16777217);
        whole(due, 4294967297.0, 4294967296L, 4294967297L);
    }

    @Says("TURNED into a long.")
    static void p16_beyondALongItIsItsEnd(Due due) {
        whole(due, 0x1p63, Long.MAX_VALUE, Long.MAX_VALUE);
        whole(due, Math.nextDown(0x1p63), Long.MAX_VALUE, Long.MAX_VALUE - 1023);
        whole(due, -0x1p63, Long.MIN_VALUE, Long.MIN_VALUE);
        whole(due, 1e300, Long.MAX_VALUE, Long.MAX_VALUE);
        whole(due, -1e30, Long.MIN_VALUE, Long.MIN_VALUE);
        whole(due, ENDLESS, Long.MAX_VALUE, Long.MAX_VALUE);
        whole(due, -ENDLESS, Long.MIN_VALUE, Long.MIN_VALUE);
    }

    @Says("Place i of a LOG,")
    static void p16_lastPlace(Due due) {
        for (int log = 0; log < 8; log++) {
            RopeDrums x = new RopeDrums();
            x.log(log, 16);
            x.set(0, 0, 77);
            x.write(log, 15, 0);
            due.is("whole(" + log + ", 15)", x.whole(log, 15), 77);
        }
    }

    @Says("0: UNKNOWN,")
    static void p16_unknownLogAnswers0(Due due) {
        for (int log : Due.beyond(8)) {
            due.refused("whole(" + log + ", 0)", 0, x -> x.whole(log, 0));
        }
    }

    @Says("REFUSALS are not counted, and come ahead of FAILURES:")
    static void p16_unknownIsNotCountedAsPlace(Due due) {
        for (int log : Due.beyond(8)) {
            due.refused("whole(" + log + ", -1)", 0, x -> x.whole(log, -1));
        }
    }

    @Says({"or it fails.", "MISSING,"})
    static void p16_missingLogAnswers0(Due due) {
        due.failsAnswering("whole(3, 0)", 0, 1, x -> { }, x -> x.whole(3, 0));
        due.failsAnswering("whole(7, 0)", 0, 1, x -> { }, x -> x.whole(7, 0));
    }

    @Says("MISSING, PLACE (failed() tells it).")
    static void p16_missingIsToldAheadOfPlace(Due due) {
        for (int i : Due.beyond(16)) {
            due.failsAnswering("whole(3, " + i + ")", 0, 1, x -> { }, x -> x.whole(3, i));
            due.failsAnswering("whole(7, " + i + ")", 0, 1, x -> { }, x -> x.whole(7, i));
        }
    }

    @Says({"or it fails.", "PLACE (failed() tells it)."})
    static void p16_noSuchPlaceAnswers0(Due due) {
        for (int i : Due.beyond(3)) {
            due.failsAnswering("whole(0, " + i + ")", 0, 2, x -> { }, x -> x.whole(0, i));
            due.failsAnswering("whole(4, " + i + ")", 0, 2, x -> { }, x -> x.whole(4, i));
        }
        due.failsAnswering("whole(1, 0)", 0, 2, x -> { }, x -> x.whole(1, 0));
        due.failsAnswering("whole(5, 0)", 0, 2, x -> { }, x -> x.whole(5, 0));
        due.failsAnswering("whole(2, 16)", 0, 2, x -> { }, x -> x.whole(2, 16));
        due.failsAnswering("whole(6, 16)", 0, 2, x -> { }, x -> x.whole(6, 16));
    }

    @Says("(failed() tells it).")
    static void p16_failedTellsA0FromAFailure(Due due) {
        RopeDrums x = new RopeDrums();
        x.log(0, 1);
        due.is("a 0 that stands there", x.whole(0, 0), 0);
        due.is("failed", x.failed(), 0);
        due.is("no such place", x.whole(0, 1), 0);
        due.is("failed", x.failed(), 2);
        due.is("a missing log", x.whole(1, 0), 0);
        due.is("failed", x.failed(), 1);
        due.is("unknown", x.whole(8, 0), 0);
        due.is("failed is still that", x.failed(), 1);
        due.is("a 0 again", x.whole(0, 0), 0);
        due.is("failed", x.failed(), 0);
    }
}
