/** Promise 10: told. */
public final class Promise10Test {
    public static void main(String[] args) {
        Promises.run(Promise10Test.class);
    }

    @Says("Of a DRUM: BITS of AROUND (what = 0), AT (1), ROPE (2); TURNS (3).")
    static void p10_fourThingsAreToldOfEveryDrum(Due due) {
        for (int drum = 0; drum < 6; drum++) {
            RopeDrums x = new RopeDrums();
            x.drum(drum, Due.d(2.0));
            x.set(0, 3, Due.d(-7.5));
            x.wind(drum, 0);
            due.is("around", x.told(drum, 0), Due.d(2.0));
            due.is("at", x.told(drum, 1), Due.d(-1.5));
            due.is("rope", x.told(drum, 2), Due.d(-7.5));
            due.is("turns", x.told(drum, 3), -3);
        }
    }

    @Says("TURNS (3).")
    static void p10_turnsMayBeAnyLong(Due due) {
        RopeDrums x = new RopeDrums();
        x.set(0, 3, Due.d(4294967297.0));
        x.wind(0, 0);
        due.is("more than an int", x.told(0, 3), 4294967297L);
        x.drum(0, Due.d(1.0));
        x.set(0, 0, RopeDrums.UNKNOWN);
        x.wind(0, 0);
        due.is("as many as a refusal's number", x.told(0, 3), -1001);
    }

    @Says("UNKNOWN,")
    static void p10_unknownDrum(Due due) {
        for (int drum : Due.beyond(6)) {
            for (int what = 0; what < 4; what++) {
                int asked = what;
                due.refused("told(" + drum + ", " + what + ")", RopeDrums.UNKNOWN, x -> x.told(drum, asked));
            }
        }
    }

    @Says("OUTSIDE.")
    static void p10_whatOutside(Due due) {
        for (int what : Due.beyond(4)) {
            due.refused("told(0, " + what + ")", RopeDrums.OUTSIDE, x -> x.told(0, what));
        }
    }

    @Says("of several the first that the call tells.")
    static void p10_unknownIsToldAheadOfOutside(Due due) {
        for (int drum : Due.beyond(6)) {
            due.refused("told(" + drum + ", 4)", RopeDrums.UNKNOWN, x -> x.told(drum, 4));
        }
    }
}
