/** Promise 8: drum. */
public final class Promise08Test {
    public static void main(String[] args) {
        Promises.run(Promise08Test.class);
    }

    private static void taken(Due due, double around) {
        RopeDrums x = new RopeDrums();
        due.is("drum(3, " + around + ")", x.drum(3, Due.d(around)), 1);
        due.is("around", x.told(3, 0), Due.d(around));
    }

    private static void outside(Due due, long around) {
        due.refused("drum(0, " + around + ")", RopeDrums.OUTSIDE, x -> x.drum(0, around));
    }

    @Says("A DRUM has another AROUND, by BITS;")
    static void p08_everyDrumHasItsOwnAround(Due due) {
        RopeDrums x = new RopeDrums();
        for (int drum = 0; drum < 6; drum++) {
            due.is("drum " + drum, x.drum(drum, Due.d(drum + 0.25)), 1);
        }
        for (int drum = 0; drum < 6; drum++) {
            due.is("around " + drum, x.told(drum, 0), Due.d(drum + 0.25));
        }
    }

    @Says("AT, ROPE are 0.0, TURNS 0: 1.")
    static void p08_whatWasWoundIsGone(Due due) {
        RopeDrums x = new RopeDrums();
        for (double v : new double[] {2.5, -2.5}) {
            x.set(0, 3, Due.d(v));
            x.wind(4, 0);
            x.wind(5, 0);
            due.is("drum", x.drum(5, Due.d(3.0)), 1);
            due.is("around", x.told(5, 0), Due.d(3.0));
            due.is("at", x.told(5, 1), Due.d(0.0));
            due.is("rope", x.told(5, 2), Due.d(0.0));
            due.is("turns", x.told(5, 3), 0);
        }
        due.is("the turns of another", x.told(4, 3), 0);
        due.is("the rope of another", x.told(4, 2), Due.d(0.0));
        x.set(0, 3, Due.d(2.5));
        x.wind(4, 0);
        x.drum(5, Due.d(1.0));
        due.is("the rope of another, wound", x.told(4, 2), Due.d(2.5));
        due.is("the turns of another, wound", x.told(4, 3), 2);
    }

    @Says("AT, ROPE are 0.0, TURNS 0: 1.")
    static void p08_sameAroundOnceMoreUnwindsToo(Due due) {
        RopeDrums x = new RopeDrums();
        x.set(0, 3, Due.d(-0.5));
        x.wind(0, 0);
        due.is("drum", x.drum(0, Due.d(1.0)), 1);
        due.is("at", x.told(0, 1), Due.d(0.0));
        due.is("rope", x.told(0, 2), Due.d(0.0));
    }

    @Says("OUTSIDE: it is not 0.125 .. 1000000.0.")
    static void p08_leastAndGreatestAreTaken(Due due) {
        taken(due, 0.125);
        taken(due, Math.nextUp(0.125));
        taken(due, Math.nextDown(1000000.0));
        taken(due, 1000000.0);
    }

    @Says("OUTSIDE: it is not 0.125 .. 1000000.0.")
    static void p08_tooSmallIsOutside(Due due) {
        double[] small = {Math.nextDown(0.125), 0.0, -0.0, Double.MIN_VALUE, -0.125, -1.0, -Double.MAX_VALUE,
            Double.NEGATIVE_INFINITY};
        for (double around : small) {
            outside(due, Due.d(around));
        }
    }

    @Says("OUTSIDE: it is not 0.125 .. 1000000.0.")
    static void p08_tooLargeIsOutside(Due due) {
        double[] large = {Math.nextUp(1000000.0), 1e300, Double.MAX_VALUE, Double.POSITIVE_INFINITY};
        for (double around : large) {
            outside(due, Due.d(around));
        }
    }

    @Says("NO NUMBER is never taken (OUTSIDE),")
    static void p08_noNumberIsOutside(Due due) {
        long[] none = {0x7ff0000000000001L, 0x7ff8000000000000L, Long.MAX_VALUE, -1L, -4503599627370495L};
        for (long around : none) {
            outside(due, around);
        }
    }

    @Says("UNKNOWN;")
    static void p08_unknownDrum(Due due) {
        for (int drum : Due.beyond(6)) {
            due.refused("drum(" + drum + ", 1.0)", RopeDrums.UNKNOWN, x -> x.drum(drum, Due.d(1.0)));
        }
    }

    @Says("of several the first that the call tells.")
    static void p08_unknownIsToldAheadOfOutside(Due due) {
        for (int drum : Due.beyond(6)) {
            due.refused("drum, around wrong too", RopeDrums.UNKNOWN, x -> x.drum(drum, Due.d(0.0)));
            due.refused("drum, no number too", RopeDrums.UNKNOWN, x -> x.drum(drum, -1L));
        }
    }
}
