/** Promises 8 to 10: drum, wind, told. */
public final class DrumsTest {
    private static final Due due = new Due();

    public static void main(String[] args) {
        around();
        winding();
        wrapping();
        rope();
        failing();
        refusals();
        due.end();
    }

    private static void told(RopeDrums x, int drum, double around, double at, double rope, long turns) {
        due.is("around", x.told(drum, 0), Due.d(around));
        due.is("at", x.told(drum, 1), Due.d(at));
        due.is("rope", x.told(drum, 2), Due.d(rope));
        due.is("turns", x.told(drum, 3), turns);
    }

    private static void wind(RopeDrums x, int drum, double v) {
        x.set(9, 3, Due.d(v));
        due.is("wind " + v, x.wind(drum, 9), 1);
    }

    private static void around() {
        RopeDrums x = new RopeDrums();
        double[] taken = {0.125, Math.nextUp(0.125), 1.0, 3.7, Math.nextDown(1e6), 1e6};
        for (double around : taken) {
            wind(x, 5, 2.5);
            due.is("drum " + around, x.drum(5, Due.d(around)), 1);
            told(x, 5, around, 0.0, 0.0, 0);
        }
        wind(x, 5, 2.5);
        double[] refused = {Math.nextDown(0.125), Math.nextUp(1e6), 0.0, -0.0, -1.0, Double.MIN_VALUE, 1e300,
            Double.POSITIVE_INFINITY, Double.NEGATIVE_INFINITY, Double.NaN};
        for (double around : refused) {
            due.is("drum " + around, x.drum(5, Due.d(around)), RopeDrums.OUTSIDE);
        }
        due.is("drum, no number, below", x.drum(5, -1L), RopeDrums.OUTSIDE);
        told(x, 5, 1e6, 2.5, 2.5, 0);
    }

    private static void winding() {
        RopeDrums x = new RopeDrums();
        x.drum(0, Due.d(2.0));
        wind(x, 0, 5.5);
        told(x, 0, 2.0, 1.5, 5.5, 2);
        wind(x, 0, 0.75);
        told(x, 0, 2.0, 0.25, 6.25, 3);
        wind(x, 0, -5.0);
        told(x, 0, 2.0, -0.75, 1.25, 1);
        wind(x, 0, -1.25);
        told(x, 0, 2.0, -0.0, 0.0, 0);
        wind(x, 0, -0.0);
        told(x, 0, 2.0, -0.0, 0.0, 0);
        wind(x, 0, 0.0);
        told(x, 0, 2.0, 0.0, 0.0, 0);
        told(x, 1, 1.0, 0.0, 0.0, 0);
        x.drum(1, Due.d(0.3));
        double at = 0.0;
        double rope = 0.0;
        long turns = 0;
        for (int i = 1; i <= 40; i++) {
            double v = (i % 3 - 1) * i * 0.1;
            wind(x, 1, v);
            double s = at + v;
            turns += (long) (s / 0.3);
            at = s % 0.3;
            rope += v;
            told(x, 1, 0.3, at, rope, turns);
        }
        x.drum(2, Due.d(3.0));
        x.set(0, 0, 7);
        x.wind(2, 0);
        x.set(0, 2, Due.f(0.1f));
        x.wind(2, 0);
        due.is("the meter is as it was", x.lane(0), 2);
        told(x, 2, 3.0, (1.0 + 0.1f) % 3.0, 7.0 + 0.1f, 2);
        x.drum(2, Due.d(1000.0));
        x.set(0, 1, 9007199254740993L);
        x.wind(2, 0);
        told(x, 2, 1000.0, 992.0, 9007199254740992.0, 9007199254740L);
        // exactly 1.0 holds 0.1 nine times, but the turns go by the rounded quotient
        x.drum(3, Due.d(0.2));
        wind(x, 3, 1.0);
        told(x, 3, 0.2, 1.0 % 0.2, 1.0, 5);
    }

    private static void wrapping() {
        RopeDrums x = new RopeDrums();
        wind(x, 0, 1e300);
        due.is("turns", x.told(0, 3), Long.MAX_VALUE);
        wind(x, 0, 1e300);
        due.is("turns wrap", x.told(0, 3), -2);
        wind(x, 0, -1e300);
        due.is("turns wrap back", x.told(0, 3), Long.MAX_VALUE - 1);
        x.drum(0, Due.d(0.125));
        wind(x, 0, Double.MAX_VALUE);
        told(x, 0, 0.125, 0.0, Double.MAX_VALUE, Long.MAX_VALUE);
        wind(x, 0, -Double.MAX_VALUE);
        told(x, 0, 0.125, -0.0, 0.0, -1);
    }

    private static void rope() {
        RopeDrums x = new RopeDrums();
        wind(x, 4, Double.MAX_VALUE);
        wind(x, 4, Double.MAX_VALUE);
        due.is("endless rope", x.told(4, 2), Due.d(Double.POSITIVE_INFINITY));
        wind(x, 4, -Double.MAX_VALUE);
        due.is("endless rope stays", x.told(4, 2), Due.d(Double.POSITIVE_INFINITY));
    }

    private static void failing() {
        RopeDrums x = new RopeDrums();
        wind(x, 0, 1.25);
        double[] endless = {Double.POSITIVE_INFINITY, Double.NEGATIVE_INFINITY};
        for (double v : endless) {
            x.set(0, 3, Due.d(v));
            due.is("wind " + v, x.wind(0, 0), -15);
            due.is("failed", x.failed(), 5);
            x.set(0, 2, Due.f((float) v));
            due.is("wind float " + v, x.wind(0, 0), -15);
        }
        due.is("count", x.count(5), 4);
        told(x, 0, 1.0, 0.25, 1.25, 1);
        wind(x, 0, 1.0);
        due.is("failed no more", x.failed(), 0);
    }

    private static void refusals() {
        RopeDrums x = new RopeDrums();
        x.set(1, 3, Due.d(Double.POSITIVE_INFINITY));
        x.wind(0, 1);
        int[] nothing = {-1, 6, Integer.MIN_VALUE, Integer.MAX_VALUE};
        for (int drum : nothing) {
            due.is("drum", x.drum(drum, Due.d(1.0)), RopeDrums.UNKNOWN);
            due.is("drum, around wrong too", x.drum(drum, Due.d(0.0)), RopeDrums.UNKNOWN);
            due.is("wind", x.wind(drum, 0), RopeDrums.UNKNOWN);
            due.is("wind, ahead of VOID", x.wind(drum, 1), RopeDrums.UNKNOWN);
            due.is("told", x.told(drum, 0), RopeDrums.UNKNOWN);
            due.is("told, what wrong too", x.told(drum, 4), RopeDrums.UNKNOWN);
            due.is("told, what", x.told(0, drum == 6 ? 4 : drum), RopeDrums.OUTSIDE);
        }
        due.is("wind, meter", x.wind(0, 10), RopeDrums.UNKNOWN);
        due.is("wind, meter", x.wind(0, -1), RopeDrums.UNKNOWN);
        due.is("failed", x.failed(), 5);
        due.is("count", x.count(5), 1);
    }
}
