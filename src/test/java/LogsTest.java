/** Promises 11 to 16: log, write, read, rest, copy, whole. */
public final class LogsTest {
    private static final Due due = new Due();
    private static final int[] NO_PLACES = {-1, 3, 15, 16, Integer.MIN_VALUE, Integer.MAX_VALUE};

    public static void main(String[] args) {
        newRows();
        writing();
        resting();
        copying();
        copyFailing();
        wholes();
        refusals();
        due.end();
    }

    private static void put(RopeDrums x, int log, int i, double v) {
        x.set(9, 3, Due.d(v));
        due.is("write", x.write(log, i, 9), 1);
    }

    private static void stands(RopeDrums x, int log, int i, double want) {
        due.is("read " + log + " " + i, x.read(log, i, 8), log < 4 ? 2 : 3);
        due.is("lane", x.lane(8), log < 4 ? 2 : 3);
        due.is("place " + i + " of " + log, x.bits(8), log < 4 ? Due.f((float) want) : Due.d(want));
    }

    private static void newRows() {
        RopeDrums x = new RopeDrums();
        for (int log = 0; log < 8; log++) {
            due.is("log of 16", x.log(log, 16), 1);
            for (int i = 0; i < 16; i++) {
                put(x, log, i, i + 0.5);
            }
            due.is("place 16", x.write(log, 16, 9), -12);
            due.is("log of 3", x.log(log, 3), 1);
            due.is("place 3", x.read(log, 3, 9), -12);
            due.is("log of 4", x.log(log, 4), 1);
            for (int i = 0; i < 4; i++) {
                stands(x, log, i, 0.0);
            }
            due.is("log of none", x.log(log, 0), 1);
            due.is("place 0", x.read(log, 0, 9), -12);
            due.is("log missing", x.log(log, RopeDrums.NONE), 1);
            due.is("missing", x.read(log, 0, 9), -11);
        }
        x.log(2, 2);
        put(x, 2, 1, 4.0);
        int[] wrong = {-2, 17, Integer.MIN_VALUE, Integer.MAX_VALUE};
        for (int n : wrong) {
            due.is("log of " + n, x.log(2, n), RopeDrums.OUTSIDE);
        }
        stands(x, 2, 1, 4.0);
    }

    private static void writing() {
        for (int log = 0; log < 8; log++) {
            RopeDrums x = new RopeDrums();
            due.is("write, missing", x.write(log, 0, 1), -11);
            due.is("read, missing", x.read(log, 0, 1), -11);
            x.log(log, 3);
            double[] numbers = {0.1, -0.0, 1e300, Double.NEGATIVE_INFINITY, 1e-320, 16777217.0};
            for (double v : numbers) {
                put(x, log, 2, v);
                stands(x, log, 2, v);
                stands(x, log, 1, 0.0);
            }
            long twice = (1L << 60) + (1L << 36) + 1;
            x.set(0, 1, twice);
            x.write(log, 0, 0);
            x.read(log, 0, 3);
            due.is("a long", x.bits(3), log < 4 ? Due.f((float) twice) : Due.d((double) twice));
            due.is("the meter is as it was", x.bits(0), twice);
            x.set(3, 1, 66);
            for (int i : NO_PLACES) {
                due.is("write " + i, x.write(log, i, 1), -12);
                due.is("read " + i, x.read(log, i, 3), -12);
                due.is("failed", x.failed(), 2);
            }
            due.is("a meter that nothing was read into", x.bits(3), 66);
            due.is("count MISSING", x.count(1), 2);
            due.is("count PLACE", x.count(2), 2 * NO_PLACES.length);
            stands(x, log, 2, 16777217.0);
            due.is("failed no more", x.failed(), 0);
        }
    }

    private static void resting() {
        for (int log = 0; log < 8; log += 7) {
            RopeDrums x = new RopeDrums();
            due.is("rest, missing", x.rest(log, 0, 0), -11);
            due.is("failed", x.failed(), 1);
            x.log(log, 3);
            for (int i : NO_PLACES) {
                due.is("rest " + i, x.rest(log, i, 0), -12);
                due.is("rest by " + i, x.rest(log, 0, i), -12);
                due.is("failed", x.failed(), 2);
            }
            due.is("count MISSING", x.count(1), 1);
            due.is("count PLACE", x.count(2), 2 * NO_PLACES.length);
            due.is("by 0.0", x.rest(log, 0, 1), -15);
            double[][] rests = {{7.5, 2.0, 1.5}, {-7.5, 2.0, -1.5}, {-6.0, -2.0, -0.0},
                {5.0, Double.NEGATIVE_INFINITY, 5.0}, {1e30, 3.0, log < 4 ? 1e30f % 3f : 1e30 % 3.0},
                {0.1f, 1e-40f, 0.1f % 1e-40f}};
            for (double[] r : rests) {
                put(x, log, 0, r[0]);
                put(x, log, 1, r[1]);
                due.is("rest", x.rest(log, 0, 1), 1);
                due.is("failed", x.failed(), 0);
                stands(x, log, 0, r[2]);
                stands(x, log, 1, r[1]);
            }
            put(x, log, 2, -9.0);
            due.is("rest by itself", x.rest(log, 2, 2), 1);
            stands(x, log, 2, -0.0);
            put(x, log, 0, Double.POSITIVE_INFINITY);
            put(x, log, 1, 2.0);
            due.is("endless", x.rest(log, 0, 1), -15);
            due.is("endless by endless", x.rest(log, 0, 0), -15);
            due.is("by -0.0", x.rest(log, 1, 2), -15);
            due.is("failed", x.failed(), 5);
            due.is("count", x.count(5), 4);
            stands(x, log, 0, Double.POSITIVE_INFINITY);
            stands(x, log, 1, 2.0);
        }
    }

    private static void copying() {
        RopeDrums x = new RopeDrums();
        double[] numbers = {0.1, -0.0, 1e300, -1e-320, 16777217.0};
        x.log(4, 5);
        x.log(0, 6);
        put(x, 0, 5, 9.5);
        for (int i = 0; i < 5; i++) {
            put(x, 4, i, numbers[i]);
        }
        due.is("copy", x.copy(4, 0, false), 5);
        due.is("failed", x.failed(), 0);
        for (int i = 0; i < 5; i++) {
            stands(x, 0, i, numbers[i]);
            stands(x, 4, i, numbers[i]);
        }
        stands(x, 0, 5, 9.5);
        x.log(7, 8);
        due.is("copy back", x.copy(7, 0, true), 6);
        for (int i = 0; i < 5; i++) {
            stands(x, 7, i, (float) numbers[i]);
        }
        stands(x, 7, 5, 9.5);
        stands(x, 7, 6, 0.0);
        due.is("counted nothing", x.count(1) + x.count(2), 0);
    }

    private static void copyFailing() {
        RopeDrums x = new RopeDrums();
        due.is("both missing", x.copy(4, 0, false), -11);
        due.is("both missing, back", x.copy(4, 0, true), -11);
        x.log(4, 0);
        due.is("no places, the other missing", x.copy(4, 0, false), 0);
        due.is("failed", x.failed(), 0);
        due.is("from a missing one", x.copy(4, 0, true), -11);
        x.log(4, 3);
        due.is("the other missing", x.copy(4, 0, false), -11);
        due.is("failed", x.failed(), 1);
        due.is("count", x.count(1), 4);
        x.log(0, 0);
        due.is("no place there", x.copy(4, 0, false), 0);
        due.is("failed", x.failed(), 2);
        due.is("no places, back", x.copy(4, 0, true), 0);
        due.is("failed", x.failed(), 0);
        x.log(0, 2);
        for (int i = 0; i < 3; i++) {
            put(x, 4, i, i + 1.5);
        }
        due.is("not all", x.copy(4, 0, false), 2);
        due.is("failed", x.failed(), 2);
        stands(x, 0, 0, 1.5);
        stands(x, 0, 1, 2.5);
        x.log(4, 1);
        due.is("not all, back", x.copy(4, 0, true), 1);
        stands(x, 4, 0, 1.5);
        due.is("count PLACE", x.count(2), 3);
        due.is("count MISSING", x.count(1), 4);
    }

    private static void wholes() {
        double[] numbers = {2.9, -2.9, -0.0, 1e30, Double.NEGATIVE_INFINITY, 4294967297.0, -9007199254740993.0};
        for (int log = 3; log <= 4; log++) {
            RopeDrums x = new RopeDrums();
            due.is("whole, missing", x.whole(log, 0), 0);
            due.is("failed", x.failed(), 1);
            x.log(log, 3);
            for (double v : numbers) {
                put(x, log, 1, v);
                due.is("whole " + v, x.whole(log, 1), log < 4 ? (long) (float) v : (long) v);
                due.is("failed", x.failed(), 0);
            }
            for (int i : NO_PLACES) {
                due.is("whole " + i, x.whole(log, i), 0);
                due.is("failed", x.failed(), 2);
            }
            due.is("unknown", x.whole(8, 1), 0);
            due.is("unknown", x.whole(-1, 1), 0);
            due.is("failed is not that of a refused call", x.failed(), 2);
            due.is("count", x.count(2), NO_PLACES.length);
            due.is("whole", x.whole(log, 0), 0);
            due.is("failed", x.failed(), 0);
        }
    }

    private static void refusals() {
        RopeDrums x = new RopeDrums();
        x.read(0, 0, 0);
        int[] nothing = {-1, 8, Integer.MIN_VALUE, Integer.MAX_VALUE};
        for (int log : nothing) {
            due.is("log", x.log(log, 1), RopeDrums.UNKNOWN);
            due.is("log, n wrong too", x.log(log, 17), RopeDrums.UNKNOWN);
            due.is("write", x.write(log, 0, 0), RopeDrums.UNKNOWN);
            due.is("read", x.read(log, 0, 0), RopeDrums.UNKNOWN);
            due.is("rest", x.rest(log, 0, 0), RopeDrums.UNKNOWN);
            due.is("copy", x.copy(log, 0, false), RopeDrums.UNKNOWN);
            due.is("copy", x.copy(4, log, true), RopeDrums.UNKNOWN);
        }
        for (int log = 0; log < 4; log++) {
            due.is("copy, doubles of floats", x.copy(log, 0, false), RopeDrums.UNKNOWN);
            due.is("copy, floats of doubles", x.copy(4, log + 4, true), RopeDrums.UNKNOWN);
            due.is("copy, the wrong way round", x.copy(log, log + 4, true), RopeDrums.UNKNOWN);
        }
        due.is("write, meter, ahead of MISSING", x.write(0, 0, 10), RopeDrums.UNKNOWN);
        due.is("read, meter, ahead of MISSING", x.read(0, 0, -1), RopeDrums.UNKNOWN);
        due.is("failed", x.failed(), 1);
        due.is("count", x.count(1), 1);
    }
}
