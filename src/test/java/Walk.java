import java.util.ArrayList;
import java.util.List;

/**
 * A rope walk with something everywhere, and all that can be seen of it, so that a test can tell that
 * a call changed nothing.
 *
 * <p>Meters: 0 the int 0, 1 the int 7, 2 the long -9, 3 the float 2.5, 4 the double -7.5, 5 an endless
 * double, 6 an endless float below 0, 7 the double -0.0, 8 the long TWICE, 9 the least int. Drums: 0 of
 * 2.0 and 5 of 0.3 are wound on. Logs: 0 and 4 have the places 1.5, endless, 0.0; 1 and 5 have none; 2
 * and 6 have 16; 3 and 7 are missing. Spools: 0 and 2 (of 5, 9) are no reels, 1 (of 6) is one. Racks: 0
 * has the spools 0, 1 and nothing; 1, for reels alone, the spool 1 and nothing twice; 2 has no places; 3
 * has 12; 4 is missing. Brakes: 0 a pad of 2.5, 1 a drag of 4.0, 2 a pad of 0.0; 3 is missing.
 */
final class Walk {
    /** By way of a double it would be rounded twice on its way into a float. */
    static final long TWICE = (1L << 60) + (1L << 36) + 1;

    static final double ENDLESS = Double.POSITIVE_INFINITY;

    private Walk() {
    }

    /** In full use, after what the test does ahead, the latest failure being the given one. */
    static RopeDrums used(int latest, Due.Before before) {
        RopeDrums x = new RopeDrums();
        drums(x);
        logs(x);
        racks(x);
        x.brake(0, 0, Due.d(2.5));
        x.brake(1, 1, Due.d(4.0));
        x.brake(2, 0, Due.d(0.0));
        meters(x);
        before.on(x);
        failures(x, latest);
        return x;
    }

    private static void drums(RopeDrums x) {
        x.drum(0, Due.d(2.0));
        x.drum(5, Due.d(0.3));
        x.set(0, 3, Due.d(5.5));
        x.wind(0, 0);
        x.wind(5, 0);
    }

    private static void logs(RopeDrums x) {
        x.set(1, 3, Due.d(1.5));
        x.set(2, 3, Due.d(ENDLESS));
        for (int log = 0; log <= 4; log += 4) {
            x.log(log, 3);
            x.write(log, 0, 1);
            x.write(log, 1, 2);
            x.log(log + 1, 0);
            x.log(log + 2, 16);
            x.write(log + 2, 15, 1);
        }
    }

    private static void racks(RopeDrums x) {
        x.spool(5, false);
        x.spool(6, true);
        x.spool(9, false);
        x.rack(0, false, 3);
        x.put(0, 0, 0);
        x.put(0, 1, 1);
        x.rack(1, true, 3);
        x.put(1, 0, 1);
        x.rack(2, true, 0);
        x.rack(3, false, 12);
        x.put(3, 11, 2);
    }

    private static void meters(RopeDrums x) {
        x.set(0, 0, 0);
        x.set(1, 0, 7);
        x.set(2, 1, -9);
        x.set(3, 2, Due.f(2.5f));
        x.set(4, 3, Due.d(-7.5));
        x.set(5, 3, Due.d(ENDLESS));
        x.set(6, 2, Due.f(Float.NEGATIVE_INFINITY));
        x.set(7, 3, Due.d(-0.0));
        x.set(8, 1, TWICE);
        x.set(9, 0, Integer.MIN_VALUE);
    }

    /** Each failure comes as often as its number tells, the latest once more. */
    private static void failures(RopeDrums x, int latest) {
        long first = x.bits(0);
        int lane = x.lane(0);
        x.set(0, 0, 0);
        for (int failure = 1; failure <= 5; failure++) {
            for (int i = 0; i < failure; i++) {
                fail(x, failure);
            }
        }
        fail(x, latest);
        x.set(0, lane, first);
    }

    private static void fail(RopeDrums x, int failure) {
        switch (failure) {
            case 1 -> x.at(4, 0);
            case 2 -> x.at(0, 3);
            case 3 -> x.put(1, 0, 0);
            case 4 -> x.reckon(3, 0, 0, 0);
            default -> x.wind(0, 5);
        }
    }

    /** All that can be seen; looking uses the object up. */
    static List<String> seen(RopeDrums x) {
        List<String> seen = new ArrayList<>();
        seen.add(counted(0, x.failed()));
        int spools = x.count(0);
        for (int what = 1; what <= 5; what++) {
            seen.add(counted(what, x.count(what)));
        }
        for (int meter = 0; meter < 10; meter++) {
            seen.add("meter " + meter + " " + x.lane(meter) + ":" + x.bits(meter));
        }
        for (int drum = 0; drum < 6; drum++) {
            seen.add("drum " + drum + " " + x.told(drum, 0) + " " + x.told(drum, 1) + " " + x.told(drum, 2)
                    + " " + x.told(drum, 3));
        }
        for (int log = 0; log < 8; log++) {
            seen.add("log " + log + row(x, log));
        }
        for (int rack = 0; rack < 5; rack++) {
            seen.add("rack " + rack + places(x, rack));
        }
        seen.add("spools" + spools(x, spools));
        for (int brake = 0; brake < 4; brake++) {
            seen.add("brake " + brake + grip(x, brake));
        }
        return seen;
    }

    /** Turns what is seen of a walk into what is due after one failure more. */
    static void expectFailure(List<String> seen, int failure) {
        String now = seen.get(failure);
        int count = Integer.parseInt(now.substring(now.lastIndexOf(' ') + 1));
        seen.set(0, counted(0, failure));
        seen.set(failure, counted(failure, count + 1));
    }

    private static String counted(int what, int number) {
        return (what == 0 ? "failed " : "count of " + what + " ") + number;
    }

    private static String row(RopeDrums x, int log) {
        StringBuilder row = new StringBuilder();
        for (int i = 0; i <= 16; i++) {
            int answer = x.read(log, i, 0);
            row.append(' ').append(answer < 0 ? answer : x.bits(0));
            if (answer < 0) {
                break;
            }
        }
        return row.toString();
    }

    private static String places(RopeDrums x, int rack) {
        StringBuilder places = new StringBuilder();
        for (int i = 0; i <= 12; i++) {
            int answer = x.at(rack, i);
            places.append(' ').append(answer);
            if (answer < RopeDrums.NONE) {
                break;
            }
        }
        return places.append(", one that is no reel: ").append(x.put(rack, 0, 0)).toString();
    }

    private static String spools(RopeDrums x, int count) {
        StringBuilder weights = new StringBuilder();
        x.rack(0, false, 1);
        for (int spool = 0; spool < count; spool++) {
            x.put(0, 0, spool);
            weights.append(' ').append(x.weight(0, 0, false)).append('/').append(x.weight(0, 0, true));
        }
        return weights.toString();
    }

    private static String grip(RopeDrums x, int brake) {
        x.set(0, 3, Due.d(1e15 + 0.875));
        return " " + x.slow(brake, 0) + " " + x.bits(0);
    }
}
