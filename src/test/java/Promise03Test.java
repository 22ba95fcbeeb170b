/** Promise 3: bits. */
public final class Promise03Test {
    public static void main(String[] args) {
        Promises.run(Promise03Test.class);
    }

    private static void told(Due due, int lane, long bits) {
        RopeDrums x = new RopeDrums();
        x.set(4, lane, bits);
        due.is("bits of " + bits + " in lane " + lane, x.bits(4), bits);
        due.is("bits, asked again", x.bits(4), bits);
    }

    @Says("BITS of what a METER holds.")
    static void p03_bitsOfEveryLane(Due due) {
        told(due, 0, -5);
        told(due, 1, -5);
        told(due, 2, Due.f(-5f));
        told(due, 3, Due.d(-5.0));
    }

    @Says("of ints, longs the number itself")
    static void p03_endsOfTheIntsAndLongs(Due due) {
        told(due, 0, Integer.MAX_VALUE);
        told(due, 0, Integer.MIN_VALUE);
        told(due, 1, Long.MAX_VALUE);
        told(due, 1, Long.MIN_VALUE);
    }

    @Says("of floats their bits (as an int),")
    static void p03_floatsBelow0HaveBitsBelow0(Due due) {
        RopeDrums x = new RopeDrums();
        x.set(0, 2, Due.f(-1f));
        due.is("-1f", x.bits(0), -1082130432L);
        x.set(0, 2, Due.f(-0.0f));
        due.is("-0f", x.bits(0), -2147483648L);
        x.set(0, 2, Due.f(Float.NEGATIVE_INFINITY));
        due.is("endless below", x.bits(0), -8388608L);
    }

    @Says("of floats their bits (as an int),")
    static void p03_everyPowerOfTheFloats(Due due) {
        for (long e = 0; e < 255; e++) {
            told(due, 2, e << 23);
            told(due, 2, (e << 23) + 1);
            told(due, 2, (e << 23) + (1L << 23) - 1);
            told(due, 2, Integer.MIN_VALUE + (e << 23) + 0x2aaaaaL);
        }
        told(due, 2, 255L << 23);
    }

    @Says("of doubles theirs.")
    static void p03_everyPowerOfTheDoubles(Due due) {
        for (long e = 0; e < 2047; e++) {
            told(due, 3, e << 52);
            told(due, 3, (e << 52) + 1);
            told(due, 3, (e << 52) + (1L << 52) - 1);
            told(due, 3, Long.MIN_VALUE + (e << 52) + 0xaaaaaaaaaaaaaL);
        }
        told(due, 3, 2047L << 52);
    }

    @Says("of doubles theirs.")
    static void p03_doubleBelow0ByNothing(Due due) {
        told(due, 3, Long.MIN_VALUE);
        told(due, 3, Due.d(Double.NEGATIVE_INFINITY));
        told(due, 3, Due.d(-Double.MIN_VALUE));
        told(due, 3, Due.d(-Double.MAX_VALUE));
    }

    @Says("UNKNOWN.")
    static void p03_unknownMeter(Due due) {
        for (int meter : Due.beyond(10)) {
            due.refused("bits(" + meter + ")", RopeDrums.UNKNOWN, x -> x.bits(meter));
        }
    }
}
