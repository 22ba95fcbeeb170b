/** Promise 9: wind. */
public final class Promise09Test {
    private static final double ENDLESS = Walk.ENDLESS;

    public static void main(String[] args) {
        Promises.run(Promise09Test.class);
    }

    private static RopeDrums walk(int drum, double around) {
        RopeDrums x = new RopeDrums();
        x.drum(drum, Due.d(around));
        return x;
    }

    private static void wind(Due due, RopeDrums x, int drum, double v) {
        x.set(9, 3, Due.d(v));
        x.at(0, 0);
        due.is("wind " + v, x.wind(drum, 9), 1);
        due.is("failed", x.failed(), 0);
        due.is("the meter is as it was", x.bits(9), Due.d(v));
    }

    private static void told(Due due, RopeDrums x, int drum, double around, double at, double rope, long turns) {
        due.is("around", x.told(drum, 0), Due.d(around));
        due.is("at", x.told(drum, 1), Due.d(at));
        due.is("rope", x.told(drum, 2), Due.d(rope));
        due.is("turns", x.told(drum, 3), turns);
    }

    @Says("v, is wound on a DRUM: with s = AT + v it goes (s / AROUND TURNED into a long) TURNS further (wrapping), AT becomes what is left of s by AROUND, ROPE v more: 1.")
    static void p09_windsOnAndOn(Due due) {
        RopeDrums x = walk(0, 2.0);
        wind(due, x, 0, 5.5);
        told(due, x, 0, 2.0, 1.5, 5.5, 2);
        wind(due, x, 0, 0.75);
        told(due, x, 0, 2.0, 0.25, 6.25, 3);
        wind(due, x, 0, 1.5);
        told(due, x, 0, 2.0, 1.75, 7.75, 3);
        wind(due, x, 0, 0.25);
        told(due, x, 0, 2.0, 0.0, 8.0, 4);
        told(due, x, 1, 1.0, 0.0, 0.0, 0);
    }

    @Says("it goes (s / AROUND TURNED into a long) TURNS further")
    static void p09_windsBackBelow0(Due due) {
        RopeDrums x = walk(0, 2.0);
        wind(due, x, 0, 6.25);
        told(due, x, 0, 2.0, 0.25, 6.25, 3);
        wind(due, x, 0, -5.0);
        told(due, x, 0, 2.0, -0.75, 1.25, 1);
        wind(due, x, 0, -4.0);
        told(due, x, 0, 2.0, -0.75, -2.75, -1);
        wind(due, x, 0, 1.0);
        told(due, x, 0, 2.0, 0.25, -1.75, -1);
    }

    @Says("AT becomes what is left of s by AROUND,")
    static void p09_nothingLeftHasTheSignOfS(Due due) {
        RopeDrums x = walk(2, 2.0);
        wind(due, x, 2, -4.0);
        told(due, x, 2, 2.0, -0.0, -4.0, -2);
        wind(due, x, 2, -0.0);
        told(due, x, 2, 2.0, -0.0, -4.0, -2);
        wind(due, x, 2, 0.0);
        told(due, x, 2, 2.0, 0.0, -4.0, -2);
        wind(due, x, 2, -0.0);
        told(due, x, 2, 2.0, 0.0, -4.0, -2);
    }

    @Says({"(s / AROUND TURNED into a long)", "what is left of s by AROUND,"})
    static void p09_turnsGoByTheRoundedQuotientAtByTheExact(Due due) {
        RopeDrums x = walk(3, 0.2);
        wind(due, x, 3, 1.0);
        told(due, x, 3, 0.2, 0.19999999999999996, 1.0, 5);
        x.drum(3, Due.d(0.3));
        double at = 0.0;
        double rope = 0.0;
        long turns = 0;
        for (int i = 1; i <= 40; i++) {
            double v = (i % 3 - 1) * i * 0.1;
            wind(due, x, 3, v);
            double s = at + v;
            turns += (long) (s / 0.3);
            at = s % 0.3;
            rope += v;
            told(due, x, 3, 0.3, at, rope, turns);
        }
    }

    @Says("What a METER holds, TURNED into a double,")
    static void p09_everyLaneIsTurnedIntoADouble(Due due) {
        RopeDrums x = walk(2, 3.0);
        x.set(0, 0, 7);
        due.is("an int", x.wind(2, 0), 1);
        told(due, x, 2, 3.0, 1.0, 7.0, 2);
        due.is("it stays an int", x.lane(0), 0);
        x.set(0, 2, Due.f(0.1f));
        due.is("a float", x.wind(2, 0), 1);
        told(due, x, 2, 3.0, (1.0 + 0.1f) % 3.0, 7.0 + 0.1f, 2);
        due.is("it stays a float", x.lane(0), 2);
        x.drum(2, Due.d(1000.0));
        x.set(0, 1, 9007199254740993L);
        due.is("a long", x.wind(2, 0), 1);
        told(due, x, 2, 1000.0, 992.0, 9007199254740992.0, 9007199254740L);
        due.is("it stays as it was", x.bits(0), 9007199254740993L);
    }

    @Says("(s / AROUND TURNED into a long)")
    static void p09_turnsBeyondALongAreItsEnd(Due due) {
        RopeDrums x = walk(0, 1.0);
        wind(due, x, 0, 1e300);
        due.is("turns", x.told(0, 3), Long.MAX_VALUE);
        x.drum(0, Due.d(1.0));
        wind(due, x, 0, -1e300);
        due.is("turns", x.told(0, 3), Long.MIN_VALUE);
    }

    @Says("TURNS further (wrapping),")
    static void p09_turnsWrap(Due due) {
        RopeDrums x = walk(0, 1.0);
        wind(due, x, 0, 1e300);
        wind(due, x, 0, 1.0);
        due.is("one beyond the end", x.told(0, 3), Long.MIN_VALUE);
        wind(due, x, 0, -1.0);
        due.is("and back", x.told(0, 3), Long.MAX_VALUE);
        wind(due, x, 0, 1e300);
        due.is("twice the greatest", x.told(0, 3), -2);
        wind(due, x, 0, -1e300);
        due.is("less the least", x.told(0, 3), Long.MAX_VALUE - 1);
    }

    @Says("(s / AROUND TURNED into a long)")
    static void p09_endlessQuotientDoesNotFail(Due due) {
        RopeDrums x = walk(0, 0.125);
        wind(due, x, 0, Double.MAX_VALUE);
        told(due, x, 0, 0.125, 0.0, Double.MAX_VALUE, Long.MAX_VALUE);
        wind(due, x, 0, -Double.MAX_VALUE);
        told(due, x, 0, 0.125, -0.0, 0.0, -1);
    }

    @Says("ROPE v more:")
    static void p09_ropeMayBecomeEndlessAndStaysSo(Due due) {
        RopeDrums x = walk(4, 1.0);
        wind(due, x, 4, Double.MAX_VALUE);
        wind(due, x, 4, Double.MAX_VALUE);
        due.is("endless rope", x.told(4, 2), Due.d(ENDLESS));
        wind(due, x, 4, -Double.MAX_VALUE);
        due.is("it stays", x.told(4, 2), Due.d(ENDLESS));
        x.drum(4, Due.d(1.0));
        wind(due, x, 4, -Double.MAX_VALUE);
        wind(due, x, 4, -Double.MAX_VALUE);
        due.is("endless below", x.told(4, 2), Due.d(-ENDLESS));
    }

    @Says("ROPE v more:")
    static void p09_ropeIsRounded(Due due) {
        RopeDrums x = walk(4, 1.0);
        wind(due, x, 4, 0.1);
        wind(due, x, 4, 0.2);
        due.is("rope", x.told(4, 2), Due.d(0.30000000000000004));
        wind(due, x, 4, -0.3);
        due.is("rope", x.told(4, 2), Due.d(5.551115123125783E-17));
    }

    @Says("What a METER holds,")
    static void p09_everyDrumAndMeter(Due due) {
        for (int drum = 0; drum < 6; drum++) {
            RopeDrums x = new RopeDrums();
            for (int meter = 0; meter < 10; meter++) {
                x.set(meter, 0, 1 << meter);
                due.is("wind", x.wind(drum, meter), 1);
            }
            told(due, x, drum, 1.0, 0.0, 1023.0, 1023);
            told(due, x, (drum + 1) % 6, 1.0, 0.0, 0.0, 0);
        }
    }

    @Says("UNKNOWN.")
    static void p09_unknownDrum(Due due) {
        for (int drum : Due.beyond(6)) {
            due.refused("wind(" + drum + ", 1)", RopeDrums.UNKNOWN, x -> x.wind(drum, 1));
        }
    }

    @Says("UNKNOWN.")
    static void p09_unknownMeter(Due due) {
        for (int meter : Due.beyond(10)) {
            due.refused("wind(0, " + meter + ")", RopeDrums.UNKNOWN, x -> x.wind(0, meter));
        }
    }

    @Says("REFUSALS are not counted, and come ahead of FAILURES:")
    static void p09_unknownIsToldAheadOfVoid(Due due) {
        for (int drum : Due.beyond(6)) {
            due.refused("wind(" + drum + ", 5)", RopeDrums.UNKNOWN, x -> x.wind(drum, 5));
        }
    }

    @Says("VOID: v is endless.")
    static void p09_endlessIsVoid(Due due) {
        due.fails("an endless double", 5, x -> x.wind(0, 5));
        due.fails("an endless float below", 5, x -> x.wind(5, 6));
        due.fails("an endless double below", 5, x -> x.set(1, 3, Due.d(-ENDLESS)), x -> x.wind(0, 1));
        due.fails("an endless float", 5, x -> x.set(1, 2, Due.f((float) ENDLESS)), x -> x.wind(0, 1));
    }

    @Says("VOID: v is endless.")
    static void p09_greatestNumberIsNotEndless(Due due) {
        RopeDrums x = walk(0, 1.0);
        wind(due, x, 0, Double.MAX_VALUE);
        told(due, x, 0, 1.0, 0.0, Double.MAX_VALUE, Long.MAX_VALUE);
    }

    @Says("VOID: v is endless.")
    static void p09_endlessOnAnEndlessRopeIsVoidToo(Due due) {
        Due.Before endless = x -> {
            x.set(1, 3, Due.d(Double.MAX_VALUE));
            x.wind(0, 1);
            x.wind(0, 1);
        };
        due.fails("the same way", 5, endless, x -> x.wind(0, 5));
        due.fails("the other way", 5, endless, x -> x.wind(0, 6));
    }
}
