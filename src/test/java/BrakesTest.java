/** Promises 22 and 23: brake and slow. */
public final class BrakesTest {
    private static final Due due = new Due();
    private static final double ENDLESS = Double.POSITIVE_INFINITY;

    public static void main(String[] args) {
        pads();
        drags();
        voids();
        lanes();
        missing();
        refusals();
        due.end();
    }

    private static void slowed(int sort, double grip, double v, double want) {
        RopeDrums x = new RopeDrums();
        String call = (sort == 0 ? "pad " : "drag ") + grip + " of " + v;
        due.is("brake", x.brake(3, sort, Due.d(grip)), 1);
        x.set(6, 3, Due.d(v));
        x.slow(0, 6);
        due.is(call, x.slow(3, 6), 1);
        due.is(call + ", lane", x.lane(6), 3);
        due.is(call + ", bits", x.bits(6), Due.d(want));
        due.is(call + ", failed", x.failed(), 0);
    }

    private static void pads() {
        slowed(0, 2.0, 7.5, 1.5);
        slowed(0, -2.0, -7.5, -1.5);
        slowed(0, 2.0, -6.0, -0.0);
        slowed(0, 0.1, 1.0, 1.0 % 0.1);
        slowed(0, ENDLESS, -3.0, -3.0);
        slowed(0, -ENDLESS, -0.0, -0.0);
        slowed(0, Double.MIN_VALUE, 1e300, 0.0);
        slowed(0, 3.3e-310, 1e300, 1e300 % 3.3e-310);
    }

    private static void drags() {
        slowed(1, 2.0, 7.5, 3.75);
        slowed(1, 3.0, 1.0, (double) (float) (1.0 / 3.0));
        slowed(1, 1e-300, 1.0, ENDLESS);
        slowed(1, 1e-39, -1.0, -ENDLESS);
        slowed(1, 1e300, 1.0, 0.0);
        slowed(1, -1e46, 1.0, -0.0);
        slowed(1, 0.0, 5.0, ENDLESS);
        slowed(1, -0.0, 5.0, -ENDLESS);
        slowed(1, 4.0, -ENDLESS, -ENDLESS);
        slowed(1, ENDLESS, -4.0, -0.0);
        slowed(1, 0.0, ENDLESS, ENDLESS);
        slowed(1, 1.0, 16777217.0, 16777216.0);
        slowed(1, 1.0, 1e-40, (double) (float) 1e-40);
    }

    private static void isVoid(int sort, double grip, double v) {
        RopeDrums x = new RopeDrums();
        x.brake(0, sort, Due.d(grip));
        x.set(6, 3, Due.d(v));
        due.is("void", x.slow(0, 6), -15);
        due.is("failed", x.failed(), 5);
        due.is("count", x.count(5), 1);
        due.is("the meter is as it was", x.bits(6), Due.d(v));
        x.set(6, 2, Due.f((float) v));
        due.is("void", x.slow(0, 6), -15);
        due.is("its lane, too", x.lane(6), 2);
    }

    private static void voids() {
        isVoid(0, 0.0, 3.0);
        isVoid(0, -0.0, 0.0);
        isVoid(0, 2.0, ENDLESS);
        isVoid(0, ENDLESS, -ENDLESS);
        isVoid(0, 0.0, ENDLESS);
        isVoid(1, 0.0, 0.0);
        isVoid(1, -0.0, 0.0);
        isVoid(1, ENDLESS, ENDLESS);
        isVoid(1, -ENDLESS, ENDLESS);
    }

    private static void lanes() {
        RopeDrums x = new RopeDrums();
        x.brake(0, 0, Due.d(2.5));
        x.brake(1, 1, Due.d(2.5));
        x.set(0, 0, 8);
        due.is("an int", x.slow(0, 0), 1);
        due.is("lane", x.lane(0), 3);
        due.is("bits", x.bits(0), Due.d(0.5));
        x.set(0, 1, 9007199254740993L);
        due.is("a long", x.slow(1, 0), 1);
        due.is("bits", x.bits(0), Due.d((double) (float) (9007199254740992.0 / 2.5)));
        x.set(0, 2, Due.f(0.1f));
        due.is("a float", x.slow(1, 0), 1);
        due.is("lane", x.lane(0), 3);
        due.is("bits", x.bits(0), Due.d((double) (float) ((double) 0.1f / 2.5)));
    }

    private static void missing() {
        RopeDrums x = new RopeDrums();
        x.set(0, 1, 7);
        for (int brake = 0; brake < 4; brake++) {
            due.is("at first", x.slow(brake, 0), -11);
            due.is("a brake", x.brake(brake, 1, Due.d(1.0)), 1);
            due.is("it slows", x.slow(brake, 1), 1);
            due.is("missing, by no number", x.brake(brake, 2, Due.d(Double.NaN)), 1);
            x.set(0, 3, Due.d(ENDLESS));
            due.is("missing", x.slow(brake, 0), -11);
            due.is("failed", x.failed(), 1);
        }
        due.is("the meter is as it was", x.bits(0), Due.d(ENDLESS));
        due.is("count", x.count(1), 8);
    }

    private static void refusals() {
        RopeDrums x = new RopeDrums();
        x.slow(0, 0);
        int[] nothing = {-1, 4, Integer.MIN_VALUE, Integer.MAX_VALUE};
        for (int brake : nothing) {
            due.is("brake", x.brake(brake, 0, 0), RopeDrums.UNKNOWN);
            due.is("brake, sort wrong too", x.brake(brake, 3, 0), RopeDrums.UNKNOWN);
            due.is("slow", x.slow(brake, 0), RopeDrums.UNKNOWN);
        }
        x.brake(1, 0, Due.d(4.0));
        int[] noSorts = {-1, 3, Integer.MIN_VALUE, Integer.MAX_VALUE};
        for (int sort : noSorts) {
            due.is("sort", x.brake(1, sort, 0), RopeDrums.OUTSIDE);
        }
        due.is("no number", x.brake(1, 0, Due.d(Double.NaN)), RopeDrums.OUTSIDE);
        due.is("no number", x.brake(1, 1, -1), RopeDrums.OUTSIDE);
        due.is("meter, ahead of MISSING", x.slow(0, 10), RopeDrums.UNKNOWN);
        due.is("meter", x.slow(1, -1), RopeDrums.UNKNOWN);
        due.is("failed", x.failed(), 1);
        due.is("count", x.count(1), 1);
        x.set(0, 0, 6);
        x.slow(1, 0);
        due.is("the pad is as it was", x.bits(0), Due.d(2.0));
    }
}
