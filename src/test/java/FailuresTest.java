/** Promises 24 and 25: failed and count. */
public final class FailuresTest {
    private static final Due due = new Due();

    public static void main(String[] args) {
        everyFailure();
        callsThatMayNotFail();
        callsThatMay();
        refusals();
        due.end();
    }

    private static void everyFailure() {
        RopeDrums x = new RopeDrums();
        x.spool(1, false);
        x.rack(0, true, 1);
        x.set(1, 3, Due.d(Double.POSITIVE_INFINITY));
        for (int round = 1; round <= 3; round++) {
            due.is("MISSING", x.at(1, 0), -11);
            due.is("failed", x.failed(), 1);
            due.is("PLACE", x.at(0, 1), -12);
            due.is("failed", x.failed(), 2);
            due.is("MISFIT", x.put(0, 0, 0), -13);
            due.is("failed", x.failed(), 3);
            due.is("ZERO", x.reckon(3, 0, 0, 0), -14);
            due.is("failed", x.failed(), 4);
            due.is("VOID", x.wind(0, 1), -15);
            due.is("failed", x.failed(), 5);
            due.is("failed again", x.failed(), 5);
            for (int what = 1; what <= 5; what++) {
                due.is("count " + what, x.count(what), round);
            }
            due.is("spools", x.count(0), 1);
        }
    }

    private static void callsThatMayNotFail() {
        RopeDrums x = new RopeDrums();
        x.at(0, 0);
        x.set(0, 0, 1);
        due.is("set", x.failed(), 1);
        x.bits(0);
        x.lane(0);
        x.turn(0, 1);
        due.is("bits, lane, turn", x.failed(), 1);
        x.compare(0, 0);
        x.drum(0, Due.d(1.0));
        x.told(0, 0);
        due.is("compare, drum, told", x.failed(), 1);
        x.log(0, 1);
        x.spool(1, true);
        x.rack(0, true, 1);
        x.brake(0, 0, 0);
        due.is("log, spool, rack, brake", x.failed(), 1);
        x.count(1);
        x.failed();
        due.is("count, failed", x.failed(), 1);
    }

    private static void callsThatMay() {
        RopeDrums x = new RopeDrums();
        x.log(0, 2);
        x.log(4, 2);
        x.spool(3, true);
        x.rack(0, true, 1);
        x.put(0, 0, 0);
        x.set(1, 0, 1);
        x.write(0, 1, 1);
        x.brake(0, 1, Due.d(1.0));
        for (int call = 0; call < 11; call++) {
            due.is("it fails", x.at(4, 0), -11);
            may(x, call);
            due.is("failed after call " + call, x.failed(), 0);
        }
        due.is("count", x.count(1), 11);
    }

    private static void may(RopeDrums x, int call) {
        switch (call) {
            case 0 -> x.reckon(0, 0, 0, 0);
            case 1 -> x.wind(0, 0);
            case 2 -> x.write(0, 0, 0);
            case 3 -> x.read(0, 0, 2);
            case 4 -> x.rest(0, 0, 1);
            case 5 -> x.copy(4, 0, false);
            case 6 -> x.whole(0, 0);
            case 7 -> x.put(0, 0, 0);
            case 8 -> x.at(0, 0);
            case 9 -> x.weight(0, 0, true);
            default -> x.slow(0, 0);
        }
    }

    private static void refusals() {
        RopeDrums x = new RopeDrums();
        int[] wrong = {-1, 6, Integer.MIN_VALUE, Integer.MAX_VALUE};
        for (int what : wrong) {
            due.is("count " + what, x.count(what), RopeDrums.OUTSIDE);
        }
        x.reckon(4, 0, 0, 0);
        x.reckon(9, 0, 0, 0);
        x.wind(9, 0);
        x.write(9, 0, 0);
        x.read(9, 0, 0);
        x.rest(9, 0, 0);
        x.copy(0, 0, true);
        x.whole(9, 0);
        x.put(9, 0, 0);
        x.at(9, 0);
        x.weight(9, 0, true);
        x.slow(9, 0);
        due.is("failed", x.failed(), 4);
        for (int what = 0; what <= 5; what++) {
            due.is("count " + what, x.count(what), what == 4 ? 1 : 0);
        }
    }
}
