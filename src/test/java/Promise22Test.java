/** Promise 22: brake. */
public final class Promise22Test {
    private static final double ENDLESS = Walk.ENDLESS;
    private static final long[] NO_NUMBERS =
        {0x7ff0000000000001L, 0x7ff8000000000000L, Long.MAX_VALUE, -1L, -4503599627370495L};

    public static void main(String[] args) {
        Promises.run(Promise22Test.class);
    }

    private static void slows(Due due, RopeDrums x, int brake, double v, double want) {
        x.set(0, 3, Due.d(v));
        due.is("slow(" + brake + ", 0) of " + v, x.slow(brake, 0), 1);
        due.is("the outcome", x.bits(0), Due.d(want));
    }

    @Says("A BRAKE is a PAD (sort = 0) or DRAG (1) of a GRIP, by BITS, or MISSING (2;")
    static void p22_everyBrakeIsOfAnySort(Due due) {
        RopeDrums x = new RopeDrums();
        for (int brake = 0; brake < 4; brake++) {
            due.is("a pad", x.brake(brake, 0, Due.d(2.0)), 1);
            slows(due, x, brake, 7.5, 1.5);
            due.is("a drag", x.brake(brake, 1, Due.d(2.0)), 1);
            slows(due, x, brake, 7.5, 3.75);
            due.is("a pad again", x.brake(brake, 0, Due.d(4.0)), 1);
            slows(due, x, brake, 7.5, 3.5);
            due.is("missing", x.brake(brake, 2, Due.d(2.0)), 1);
            due.is("slow", x.slow(brake, 0), -11);
        }
    }

    @Says("of a GRIP, by BITS,")
    static void p22_brakesHaveGripsOfTheirOwn(Due due) {
        RopeDrums x = new RopeDrums();
        for (int brake = 0; brake < 4; brake++) {
            x.brake(brake, brake % 2, Due.d(brake + 2.0));
        }
        slows(due, x, 0, 10.5, 0.5);
        slows(due, x, 1, 10.5, 3.5);
        slows(due, x, 2, 10.5, 2.5);
        slows(due, x, 3, 10.0, 2.0);
    }

    @Says("a GRIP, by BITS,")
    static void p22_everyNumberIsAGrip(Due due) {
        RopeDrums x = new RopeDrums();
        double[] grips = {0.0, -0.0, -2.0, Double.MIN_VALUE, Double.MAX_VALUE, ENDLESS, -ENDLESS};
        for (double grip : grips) {
            due.is("a pad of " + grip, x.brake(0, 0, Due.d(grip)), 1);
            due.is("a drag of " + grip, x.brake(0, 1, Due.d(grip)), 1);
        }
        slows(due, x, 0, 2.0, -0.0);
    }

    @Says("or MISSING (2; grip is not looked at): 1.")
    static void p22_gripOfAMissingOneIsNotLookedAt(Due due) {
        for (long grip : NO_NUMBERS) {
            RopeDrums x = new RopeDrums();
            x.brake(3, 1, Due.d(2.0));
            due.is("brake(3, 2, " + grip + ")", x.brake(3, 2, grip), 1);
            due.is("slow", x.slow(3, 0), -11);
        }
    }

    @Says("UNKNOWN;")
    static void p22_unknownBrake(Due due) {
        for (int brake : Due.beyond(4)) {
            for (int sort = 0; sort < 3; sort++) {
                int asked = sort;
                due.refused("brake(" + brake + ", " + sort + ")", RopeDrums.UNKNOWN,
                        x -> x.brake(brake, asked, Due.d(1.0)));
            }
        }
    }

    @Says("OUTSIDE: sort,")
    static void p22_sortOutside(Due due) {
        for (int sort : Due.beyond(3)) {
            due.refused("brake(0, " + sort + ")", RopeDrums.OUTSIDE, x -> x.brake(0, sort, Due.d(1.0)));
            due.refused("brake(3, " + sort + ")", RopeDrums.OUTSIDE, x -> x.brake(3, sort, Due.d(1.0)));
        }
    }

    @Says({"a GRIP that is no number.", "NO NUMBER is never taken (OUTSIDE),"})
    static void p22_gripThatIsNoNumber(Due due) {
        for (long grip : NO_NUMBERS) {
            due.refused("brake(0, 0, " + grip + ")", RopeDrums.OUTSIDE, x -> x.brake(0, 0, grip));
            due.refused("brake(0, 1, " + grip + ")", RopeDrums.OUTSIDE, x -> x.brake(0, 1, grip));
            due.refused("brake(3, 1, " + grip + ")", RopeDrums.OUTSIDE, x -> x.brake(3, 1, grip));
        }
    }

    @Says("of several the first that the call tells.")
    static void p22_unknownIsToldAheadOfOutside(Due due) {
        for (int brake : Due.beyond(4)) {
            due.refused("sort wrong too", RopeDrums.UNKNOWN, x -> x.brake(brake, 3, 0));
            due.refused("grip wrong too", RopeDrums.UNKNOWN, x -> x.brake(brake, 0, -1L));
        }
    }
}
