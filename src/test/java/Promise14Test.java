/** Promise 14: rest. */
public final class Promise14Test {
    private static final double ENDLESS = Walk.ENDLESS;

    public static void main(String[] args) {
        Promises.run(Promise14Test.class);
    }

    private static void write(RopeDrums x, int log, int i, double v) {
        x.set(9, 3, Due.d(v));
        x.write(log, i, 9);
    }

    private static void stands(Due due, RopeDrums x, int log, int i, double want) {
        x.read(log, i, 8);
        due.is("place " + i + " of log " + log, x.bits(8), log < 4 ? Due.f((float) want) : Due.d(want));
    }

    private static void left(Due due, int log, double a, double b, double want) {
        RopeDrums x = new RopeDrums();
        x.log(log, 3);
        write(x, log, 2, a);
        write(x, log, 0, b);
        x.at(0, 0);
        due.is("rest of " + a + " by " + b + " in log " + log, x.rest(log, 2, 0), 1);
        due.is("failed", x.failed(), 0);
        stands(due, x, log, 2, want);
        stands(due, x, log, 0, b);
        stands(due, x, log, 1, 0.0);
    }

    private static void isVoid(Due due, double a, double b) {
        for (int log = 0; log <= 4; log += 4) {
            int ofFloats = log;
            due.fails("rest of " + a + " by " + b, 5, x -> {
                write(x, ofFloats, 0, a);
                write(x, ofFloats, 2, b);
            }, x -> x.rest(ofFloats, 0, 2));
        }
    }

    @Says("Place i of a LOG becomes what is left of it by place k: 1.")
    static void p14_whatIsLeftInEveryLog(Due due) {
        for (int log = 0; log < 8; log++) {
            left(due, log, 7.5, 2.0, 1.5);
            left(due, log, -7.5, 2.0, -1.5);
            left(due, log, 7.5, -2.0, 1.5);
            left(due, log, 1.5, 2.0, 1.5);
        }
    }

    @Says("what is left of it by place k:")
    static void p14_isMadeExactly(Due due) {
        left(due, 7, 1.0, 0.1, 0.09999999999999995);
        left(due, 7, 1e300, 3.0, 1e300 % 3.0);
        left(due, 7, Double.MAX_VALUE, 3 * Double.MIN_VALUE, 2 * Double.MIN_VALUE);
        left(due, 0, 1.0, 0.1f, 1f % 0.1f);
        left(due, 0, 1e30f, 3.0, 1e30f % 3f);
        left(due, 0, 0.1f, 1e-40f, 0.1f % 1e-40f);
        left(due, 0, Float.MAX_VALUE, 5 * Float.MIN_VALUE, Float.MAX_VALUE % (5 * Float.MIN_VALUE));
    }

    @Says("what is left of it by place k:")
    static void p14_nothingLeftHasTheSignOfPlaceI(Due due) {
        for (int log = 3; log <= 4; log++) {
            left(due, log, -6.0, 2.0, -0.0);
            left(due, log, 6.0, -2.0, 0.0);
            left(due, log, -0.0, 2.0, -0.0);
            left(due, log, 0.0, -2.0, 0.0);
            left(due, log, -0.0, Float.MIN_VALUE, -0.0);
        }
    }

    @Says("what is left of it by place k:")
    static void p14_minus0ByTheLeastDoubleStays(Due due) {
        left(due, 4, -0.0, Double.MIN_VALUE, -0.0);
        left(due, 4, -0.0, -Double.MIN_NORMAL, -0.0);
    }

    @Says("what is left of it by place k:")
    static void p14_byEndlessItStays(Due due) {
        for (int log = 3; log <= 4; log++) {
            left(due, log, 5.5, ENDLESS, 5.5);
            left(due, log, -5.5, -ENDLESS, -5.5);
            left(due, log, -0.0, ENDLESS, -0.0);
            left(due, log, Float.MAX_VALUE, ENDLESS, Float.MAX_VALUE);
        }
    }

    @Says("Place i of a LOG becomes what is left of it by place k: 1.")
    static void p14_byItself(Due due) {
        for (int log = 0; log < 8; log++) {
            RopeDrums x = new RopeDrums();
            x.log(log, 16);
            write(x, log, 15, -9.5);
            due.is("rest(" + log + ", 15, 15)", x.rest(log, 15, 15), 1);
            stands(due, x, log, 15, -0.0);
        }
    }

    @Says("UNKNOWN.")
    static void p14_unknownLog(Due due) {
        for (int log : Due.beyond(8)) {
            due.refused("rest(" + log + ", 0, 0)", RopeDrums.UNKNOWN, x -> x.rest(log, 0, 0));
            due.refused("rest(" + log + ", -1, 99)", RopeDrums.UNKNOWN, x -> x.rest(log, -1, 99));
        }
    }

    @Says("MISSING;")
    static void p14_missingLog(Due due) {
        due.fails("rest(3, 0, 0)", 1, x -> x.rest(3, 0, 0));
        due.fails("rest(7, 0, 1)", 1, x -> x.rest(7, 0, 1));
    }

    @Says("MISSING; PLACE;")
    static void p14_missingIsToldAheadOfPlace(Due due) {
        for (int i : Due.beyond(16)) {
            due.fails("rest(3, " + i + ", 0)", 1, x -> x.rest(3, i, 0));
            due.fails("rest(7, 0, " + i + ")", 1, x -> x.rest(7, 0, i));
        }
    }

    @Says("PLACE;")
    static void p14_noSuchPlaceI(Due due) {
        for (int i : Due.beyond(3)) {
            due.fails("rest(0, " + i + ", 0)", 2, x -> x.rest(0, i, 0));
            due.fails("rest(4, " + i + ", 0)", 2, x -> x.rest(4, i, 0));
        }
        due.fails("rest(1, 0, 0)", 2, x -> x.rest(1, 0, 0));
        due.fails("rest(6, 16, 15)", 2, x -> x.rest(6, 16, 15));
    }

    @Says("PLACE;")
    static void p14_noSuchPlaceK(Due due) {
        for (int k : Due.beyond(3)) {
            due.fails("rest(0, 0, " + k + ")", 2, x -> x.rest(0, 0, k));
            due.fails("rest(4, 0, " + k + ")", 2, x -> x.rest(4, 0, k));
            due.fails("rest(4, " + k + ", " + k + ")", 2, x -> x.rest(4, k, k));
        }
        due.fails("rest(5, 0, 0)", 2, x -> x.rest(5, 0, 0));
        due.fails("rest(2, 15, 16)", 2, x -> x.rest(2, 15, 16));
    }

    @Says("PLACE; VOID.")
    static void p14_placeIsToldAheadOfVoid(Due due) {
        due.fails("an endless place by none", 2, x -> x.rest(0, 1, 3));
        due.fails("an endless place by none", 2, x -> x.rest(4, 1, -1));
        due.fails("no place by 0.0", 2, x -> x.rest(0, 3, 2));
        due.fails("no place by 0.0", 2, x -> x.rest(4, -1, 2));
    }

    @Says("VOID.")
    static void p14_ofEndlessIsVoid(Due due) {
        isVoid(due, ENDLESS, 2.0);
        isVoid(due, -ENDLESS, 2.0);
        isVoid(due, ENDLESS, ENDLESS);
        isVoid(due, ENDLESS, -ENDLESS);
        due.fails("endless by itself", 5, x -> x.rest(0, 1, 1));
        due.fails("endless by itself", 5, x -> x.rest(4, 1, 1));
    }

    @Says("VOID.")
    static void p14_by0IsVoid(Due due) {
        isVoid(due, 3.0, 0.0);
        isVoid(due, 3.0, -0.0);
        isVoid(due, 0.0, 0.0);
        isVoid(due, -0.0, 0.0);
        isVoid(due, ENDLESS, 0.0);
        due.fails("0.0 by itself", 5, x -> x.rest(0, 2, 2));
        due.fails("0.0 by itself", 5, x -> x.rest(4, 2, 2));
    }

    @Says("VOID.")
    static void p14_whatIsTooSmallForAFloatIsA0There(Due due) {
        due.fails("by 1e-300, written to a log of floats", 5, x -> write(x, 0, 2, 1e-300), x -> x.rest(0, 0, 2));
        left(due, 4, 1.5, 1e-300, 1.5 % 1e-300);
    }
}
