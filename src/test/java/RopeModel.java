/**
 * The document once more, written the other way round: with the machine's own numbers, rows and
 * exceptions (which the class itself must not use), so that the two are unlikely to err alike.
 */
final class RopeModel {
    private static final int UNKNOWN = -1001, OUTSIDE = -1002, FULL = -1003;

    private static class Spool {
        int number;
        int weight;
    }

    private static final class Reel extends Spool {
        int asReel() {
            return 2 * weight + 1;
        }
    }

    private static final class Void extends RuntimeException {
        private static final long serialVersionUID = 1;
    }

    private interface Act {
        long answer();
    }

    private final Number[] meters = {0, 0, 0, 0, 0, 0, 0, 0, 0, 0};
    private final double[][] drums = new double[6][3];
    private final long[] turns = new long[6];
    private final float[][] floats = new float[4][];
    private final double[][] doubles = new double[4][];
    private final Spool[] spools = new Spool[30];
    private int spoolCount = 0;
    private final Spool[][] racks = new Spool[5][];
    private final int[] sorts = {2, 2, 2, 2};
    private final double[] grips = new double[4];
    private final int[] counts = new int[6];
    private int failed = 0;

    RopeModel() {
        for (double[] drum : drums) {
            drum[0] = 1.0;
        }
    }

    private long tried(Act act) {
        int failure;
        try {
            long answer = act.answer();
            failed = 0;
            return answer;
        } catch (NullPointerException e) {
            failure = 1;
        } catch (ArrayIndexOutOfBoundsException e) {
            failure = 2;
        } catch (ArrayStoreException | ClassCastException e) {
            failure = 3;
        } catch (ArithmeticException e) {
            failure = 4;
        } catch (Void e) {
            failure = 5;
        }
        failed = failure;
        counts[failure]++;
        return -10 - failure;
    }

    private static boolean in(int n, int from, int to) {
        return from <= n && n <= to;
    }

    private static int laneOf(Number n) {
        return n instanceof Integer ? 0 : n instanceof Long ? 1 : n instanceof Float ? 2 : 3;
    }

    private static Number turned(Number n, int lane) {
        return switch (lane) {
            case 0 -> (Number) n.intValue();
            case 1 -> (Number) n.longValue();
            case 2 -> (Number) n.floatValue();
            default -> (Number) n.doubleValue();
        };
    }

    private static double sound(double x) {
        if (Double.isNaN(x)) {
            throw new Void();
        }
        return x;
    }

    private static float sound(float x) {
        if (Float.isNaN(x)) {
            throw new Void();
        }
        return x;
    }

    long set(int meter, int lane, long bits) {
        if (!in(meter, 0, 9)) {
            return UNKNOWN;
        }
        if (!in(lane, 0, 3)) {
            return OUTSIDE;
        }
        if (lane == 2 && Float.isNaN(Float.intBitsToFloat((int) bits))
                || lane == 3 && Double.isNaN(Double.longBitsToDouble(bits))) {
            return OUTSIDE;
        }
        meters[meter] = switch (lane) {
            case 0 -> (Number) (int) bits;
            case 1 -> (Number) bits;
            case 2 -> (Number) Float.intBitsToFloat((int) bits);
            default -> (Number) Double.longBitsToDouble(bits);
        };
        return 1;
    }

    long bits(int meter) {
        if (!in(meter, 0, 9)) {
            return UNKNOWN;
        }
        Number n = meters[meter];
        return n instanceof Float f ? Float.floatToRawIntBits(f)
                : n instanceof Double d ? Double.doubleToRawLongBits(d) : n.longValue();
    }

    long lane(int meter) {
        return in(meter, 0, 9) ? laneOf(meters[meter]) : UNKNOWN;
    }

    long turn(int meter, int lane) {
        if (!in(meter, 0, 9)) {
            return UNKNOWN;
        }
        if (!in(lane, 0, 3)) {
            return OUTSIDE;
        }
        meters[meter] = turned(meters[meter], lane);
        return 1;
    }

    private static Number ofTwo(int act, Number x, Number y) {
        switch (Math.max(laneOf(x), laneOf(y))) {
            case 0: {
                int a = x.intValue();
                int b = y.intValue();
                return act == 0 ? a + b : act == 1 ? a - b : act == 2 ? a * b : act == 3 ? a / b : a % b;
            }
            case 1: {
                long a = x.longValue();
                long b = y.longValue();
                return act == 0 ? a + b : act == 1 ? a - b : act == 2 ? a * b : act == 3 ? a / b : a % b;
            }
            case 2: {
                float a = x.floatValue();
                float b = y.floatValue();
                return sound(act == 0 ? a + b : act == 1 ? a - b : act == 2 ? a * b : act == 3 ? a / b : a % b);
            }
            default: {
                double a = x.doubleValue();
                double b = y.doubleValue();
                return sound(act == 0 ? a + b : act == 1 ? a - b : act == 2 ? a * b : act == 3 ? a / b : a % b);
            }
        }
    }

    long reckon(int act, int x, int y, int into) {
        if (!in(x, 0, 9) || !in(y, 0, 9) || !in(into, 0, 9)) {
            return UNKNOWN;
        }
        if (!in(act, 0, 4)) {
            return OUTSIDE;
        }
        return tried(() -> {
            meters[into] = ofTwo(act, meters[x], meters[y]);
            return laneOf(meters[into]);
        });
    }

    long compare(int x, int y) {
        if (!in(x, 0, 9) || !in(y, 0, 9)) {
            return UNKNOWN;
        }
        int lane = Math.max(laneOf(meters[x]), laneOf(meters[y]));
        Number a = turned(meters[x], lane);
        Number b = turned(meters[y], lane);
        if (lane < 2) {
            return Long.compare(a.longValue(), b.longValue());
        }
        // adding 0.0 makes -0.0 and 0.0 alike
        return Double.compare(a.doubleValue() + 0.0, b.doubleValue() + 0.0);
    }

    long drum(int drum, long around) {
        if (!in(drum, 0, 5)) {
            return UNKNOWN;
        }
        double a = Double.longBitsToDouble(around);
        if (!(a >= 0.125 && a <= 1000000.0)) {
            return OUTSIDE;
        }
        drums[drum] = new double[] {a, 0.0, 0.0};
        turns[drum] = 0;
        return 1;
    }

    long wind(int drum, int meter) {
        if (!in(drum, 0, 5) || !in(meter, 0, 9)) {
            return UNKNOWN;
        }
        return tried(() -> {
            double v = meters[meter].doubleValue();
            if (Double.isInfinite(v)) {
                throw new Void();
            }
            double[] d = drums[drum];
            double s = d[1] + v;
            turns[drum] += (long) (s / d[0]);
            d[1] = s % d[0];
            d[2] += v;
            return 1;
        });
    }

    long told(int drum, int what) {
        if (!in(drum, 0, 5)) {
            return UNKNOWN;
        }
        if (!in(what, 0, 3)) {
            return OUTSIDE;
        }
        return what == 3 ? turns[drum] : Double.doubleToRawLongBits(drums[drum][what]);
    }

    long log(int log, int n) {
        if (!in(log, 0, 7)) {
            return UNKNOWN;
        }
        if (!in(n, -1, 16)) {
            return OUTSIDE;
        }
        if (log < 4) {
            floats[log] = n < 0 ? null : new float[n];
        } else {
            doubles[log - 4] = n < 0 ? null : new double[n];
        }
        return 1;
    }

    long write(int log, int i, int meter) {
        if (!in(log, 0, 7) || !in(meter, 0, 9)) {
            return UNKNOWN;
        }
        return tried(() -> {
            if (log < 4) {
                floats[log][i] = meters[meter].floatValue();
            } else {
                doubles[log - 4][i] = meters[meter].doubleValue();
            }
            return 1;
        });
    }

    private Number place(int log, int i) {
        return log < 4 ? (Number) floats[log][i] : (Number) doubles[log - 4][i];
    }

    long read(int log, int i, int meter) {
        if (!in(log, 0, 7) || !in(meter, 0, 9)) {
            return UNKNOWN;
        }
        return tried(() -> laneOf(meters[meter] = place(log, i)));
    }

    long rest(int log, int i, int k) {
        if (!in(log, 0, 7)) {
            return UNKNOWN;
        }
        return tried(() -> {
            Number left = ofTwo(4, place(log, i), place(log, k));
            if (log < 4) {
                floats[log][i] = left.floatValue();
            } else {
                doubles[log - 4][i] = left.doubleValue();
            }
            return 1;
        });
    }

    long copy(int from, int to, boolean back) {
        if (!in(from, 4, 7) || !in(to, 0, 3)) {
            return UNKNOWN;
        }
        int[] came = {0};
        double[] d = doubles[from - 4];
        float[] f = floats[to];
        long answer = tried(() -> {
            int n = back ? f.length : d.length;
            for (; came[0] < n; came[0]++) {
                int i = came[0];
                if (back) {
                    d[i] = f[i];
                } else {
                    f[i] = (float) d[i];
                }
            }
            return n;
        });
        return answer == -12 ? came[0] : answer;
    }

    long whole(int log, int i) {
        if (!in(log, 0, 7)) {
            return 0;
        }
        long[] number = {0};
        tried(() -> number[0] = place(log, i).longValue());
        return number[0];
    }

    long spool(int weight, boolean reel) {
        if (!in(weight, 0, 100000)) {
            return OUTSIDE;
        }
        if (spoolCount == 30) {
            return FULL;
        }
        Spool spool = reel ? new Reel() : new Spool();
        spool.weight = weight;
        spool.number = spoolCount;
        spools[spoolCount] = spool;
        return spoolCount++;
    }

    long rack(int rack, boolean reels, int n) {
        if (!in(rack, 0, 4)) {
            return UNKNOWN;
        }
        if (!in(n, -1, 12)) {
            return OUTSIDE;
        }
        racks[rack] = n < 0 ? null : reels ? new Reel[n] : new Spool[n];
        return 1;
    }

    long put(int rack, int i, int spool) {
        if (!in(rack, 0, 4) || !in(spool, -1, spoolCount - 1)) {
            return UNKNOWN;
        }
        return tried(() -> {
            racks[rack][i] = spool < 0 ? null : spools[spool];
            return 1;
        });
    }

    long at(int rack, int i) {
        if (!in(rack, 0, 4)) {
            return UNKNOWN;
        }
        return tried(() -> {
            Spool there = racks[rack][i];
            return there == null ? -1 : there.number;
        });
    }

    long weight(int rack, int i, boolean reel) {
        if (!in(rack, 0, 4)) {
            return UNKNOWN;
        }
        return tried(() -> reel ? ((Reel) racks[rack][i]).asReel() : racks[rack][i].weight);
    }

    long brake(int brake, int sort, long grip) {
        if (!in(brake, 0, 3)) {
            return UNKNOWN;
        }
        double g = Double.longBitsToDouble(grip);
        if (!in(sort, 0, 2) || sort < 2 && Double.isNaN(g)) {
            return OUTSIDE;
        }
        sorts[brake] = sort;
        grips[brake] = g;
        return 1;
    }

    long slow(int brake, int meter) {
        if (!in(brake, 0, 3) || !in(meter, 0, 9)) {
            return UNKNOWN;
        }
        return tried(() -> {
            if (sorts[brake] == 2) {
                throw new NullPointerException();
            }
            double v = meters[meter].doubleValue();
            double g = grips[brake];
            meters[meter] = sorts[brake] == 0 ? sound(v % g) : (double) (float) sound(v / g);
            return 1;
        });
    }

    long failed() {
        return failed;
    }

    long count(int what) {
        return what == 0 ? spoolCount : in(what, 1, 5) ? counts[what] : OUTSIDE;
    }
}
