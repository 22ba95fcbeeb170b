import java.util.Random;

/** All promises: long runs of drawn calls, each answered by the class as by RopeModel. */
public final class ModelTest {
    private static final int RUNS = 3000;
    private static final int CALLS = 512;

    private static final float[] FLOATS = {0f, -0f, 1f, -1f, 0.5f, 7.5f, -7.5f, 0.1f, 2f, 3f, Float.MIN_VALUE,
        -Float.MIN_VALUE, Float.MIN_NORMAL, Float.MAX_VALUE, -Float.MAX_VALUE, Float.POSITIVE_INFINITY,
        Float.NEGATIVE_INFINITY, Float.NaN, 16777216f, 16777218f, 2.1474836E9f, 9.223372E18f, -9.223372E18f, 3e38f};
    private static final double[] DOUBLES = {0.0, -0.0, 1.0, -1.0, 0.125, 1e6, 0.3, 0.1, 2.0, 7.5, -7.5, 1e300, -1e300,
        Double.MIN_VALUE, Double.MIN_NORMAL, Double.MAX_VALUE, -Double.MAX_VALUE, Double.POSITIVE_INFINITY,
        Double.NEGATIVE_INFINITY, Double.NaN, 3.4028234663852886E38, 3.4028235E38, 3.4028235677973366E38, 3.41E38,
        1.4E-45, 7.006492321624085E-46, 2147483647.0, 2147483648.5, -2147483649.0, 9.223372036854776E18,
        -9.223372036854777E18, 16777217.0, 9007199254740993.0};
    private static final long[] WHOLES = {0, 1, -1, 2, 3, -7, 2147483647L, -2147483648L, 2147483648L, 4294967296L,
        Long.MAX_VALUE, Long.MIN_VALUE, 16777217, 9007199254740993L, (1L << 60) + (1L << 36) + 1};
    private static final int[] ODD = {-1, -2, Integer.MIN_VALUE, Integer.MAX_VALUE, 30, 100000, 100001};

    private final Random draw;
    private final RopeDrums x = new RopeDrums();
    private final RopeModel model = new RopeModel();
    private String said = "";

    private ModelTest(long seed) {
        draw = new Random(seed);
    }

    public static void main(String[] args) {
        Due due = new Due();
        for (int seed = 0; seed < RUNS && due.allWell(); seed++) {
            new ModelTest(seed).run(due, seed);
        }
        due.end();
    }

    private void run(Due due, int seed) {
        for (int call = 0; call < CALLS && due.allWell(); call++) {
            long[] answers = pair(draw.nextInt(40));
            due.is("run " + seed + ", call " + call + ": " + said, answers[0], answers[1]);
        }
    }

    private int upTo(int n) {
        return draw.nextInt(25) == 0 ? ODD[draw.nextInt(ODD.length)] : draw.nextInt(n + (draw.nextInt(10) == 0 ? 2 : 0));
    }

    private long someBits(int lane) {
        boolean usual = draw.nextInt(3) != 0;
        switch (lane) {
            case 2:
                return usual ? Float.floatToRawIntBits(FLOATS[draw.nextInt(FLOATS.length)])
                        : draw.nextBoolean() ? draw.nextInt() : Float.floatToRawIntBits((float) near());
            case 3:
                return someDouble();
            default:
                return usual ? WHOLES[draw.nextInt(WHOLES.length)] : draw.nextLong() >> draw.nextInt(64);
        }
    }

    private long someDouble() {
        return draw.nextInt(3) != 0 ? Double.doubleToRawLongBits(DOUBLES[draw.nextInt(DOUBLES.length)])
                : draw.nextBoolean() ? draw.nextLong() : Double.doubleToRawLongBits(near());
    }

    private double near() {
        return Math.rint(draw.nextGaussian() * 1000.0) / (1 << draw.nextInt(12));
    }

    private long aroundBits() {
        return draw.nextInt(3) == 0 ? someDouble() : Double.doubleToRawLongBits(0.12 + Math.abs(near()));
    }

    private long[] pair(int which) {
        int a = upTo(10);
        int b = upTo(10);
        int c = upTo(10);
        boolean flag = draw.nextBoolean();
        switch (which) {
            case 0: case 1: case 2: case 3: case 4: case 5: {
                int lane = upTo(4);
                long bits = someBits(lane);
                said = "set(" + a + ", " + lane + ", " + bits + ")";
                return two(x.set(a, lane, bits), model.set(a, lane, bits));
            }
            case 6: case 7: case 8:
                said = "bits(" + a + ")";
                return two(x.bits(a), model.bits(a));
            case 9:
                said = "lane(" + a + ")";
                return two(x.lane(a), model.lane(a));
            case 10: case 11: {
                int lane = upTo(4);
                said = "turn(" + a + ", " + lane + ")";
                return two(x.turn(a, lane), model.turn(a, lane));
            }
            case 12: case 13: case 14: case 15: {
                int act = upTo(5);
                said = "reckon(" + act + ", " + a + ", " + b + ", " + c + ")";
                return two(x.reckon(act, a, b, c), model.reckon(act, a, b, c));
            }
            case 16:
                said = "compare(" + a + ", " + b + ")";
                return two(x.compare(a, b), model.compare(a, b));
            default:
                return which < 22 ? drums(which, a) : which < 30 ? logs(which, a, flag) : others(which, a, flag);
        }
    }

    private long[] drums(int which, int meter) {
        int drum = upTo(6);
        int what = upTo(4);
        long around = aroundBits();
        switch (which) {
            case 17:
                said = "drum(" + drum + ", " + around + ")";
                return two(x.drum(drum, around), model.drum(drum, around));
            case 18: case 19:
                said = "wind(" + drum + ", " + meter + ")";
                return two(x.wind(drum, meter), model.wind(drum, meter));
            default:
                said = "told(" + drum + ", " + what + ")";
                return two(x.told(drum, what), model.told(drum, what));
        }
    }

    private long[] logs(int which, int meter, boolean flag) {
        int log = upTo(8);
        int i = upTo(5);
        int k = upTo(5);
        switch (which) {
            case 22: {
                int n = draw.nextInt(4) == 0 ? upTo(18) : draw.nextInt(7) - 1;
                said = "log(" + log + ", " + n + ")";
                return two(x.log(log, n), model.log(log, n));
            }
            case 23: case 24:
                said = "write(" + log + ", " + i + ", " + meter + ")";
                return two(x.write(log, i, meter), model.write(log, i, meter));
            case 25: case 26:
                said = "read(" + log + ", " + i + ", " + meter + ")";
                return two(x.read(log, i, meter), model.read(log, i, meter));
            case 27:
                said = "rest(" + log + ", " + i + ", " + k + ")";
                return two(x.rest(log, i, k), model.rest(log, i, k));
            case 28: {
                int doubles = draw.nextInt(9) == 0 ? log : 4 + draw.nextInt(4);
                int floats = draw.nextInt(9) == 0 ? upTo(8) : draw.nextInt(4);
                said = "copy(" + doubles + ", " + floats + ", " + flag + ")";
                return two(x.copy(doubles, floats, flag), model.copy(doubles, floats, flag));
            }
            default:
                said = "whole(" + log + ", " + i + ")";
                return two(x.whole(log, i), model.whole(log, i));
        }
    }

    private long[] others(int which, int meter, boolean flag) {
        int rack = upTo(5);
        int i = upTo(4);
        int brake = upTo(4);
        switch (which) {
            case 30: {
                int weight = upTo(1000);
                said = "spool(" + weight + ", " + flag + ")";
                return two(x.spool(weight, flag), model.spool(weight, flag));
            }
            case 31: {
                int n = draw.nextInt(4) == 0 ? upTo(14) : draw.nextInt(6) - 1;
                said = "rack(" + rack + ", " + flag + ", " + n + ")";
                return two(x.rack(rack, flag, n), model.rack(rack, flag, n));
            }
            case 32: case 33: {
                int spool = draw.nextInt(6) - 1;
                said = "put(" + rack + ", " + i + ", " + spool + ")";
                return two(x.put(rack, i, spool), model.put(rack, i, spool));
            }
            case 34:
                said = "at(" + rack + ", " + i + ")";
                return two(x.at(rack, i), model.at(rack, i));
            case 35:
                said = "weight(" + rack + ", " + i + ", " + flag + ")";
                return two(x.weight(rack, i, flag), model.weight(rack, i, flag));
            case 36: {
                int sort = upTo(3);
                long grip = someDouble();
                said = "brake(" + brake + ", " + sort + ", " + grip + ")";
                return two(x.brake(brake, sort, grip), model.brake(brake, sort, grip));
            }
            case 37:
                said = "slow(" + brake + ", " + meter + ")";
                return two(x.slow(brake, meter), model.slow(brake, meter));
            case 38:
                said = "failed()";
                return two(x.failed(), model.failed());
            default: {
                int what = upTo(6);
                said = "count(" + what + ")";
                return two(x.count(what), model.count(what));
            }
        }
    }

    private static long[] two(long got, long want) {
        return new long[] {got, want};
    }
}
