/** Promise 24: failed. */
public final class Promise24Test {
    public static void main(String[] args) {
        Promises.run(Promise24Test.class);
    }

    @Says({"as 1 (MISSING) .. 5 (VOID);",
        "FAILURES: -11 MISSING (nothing is there), -12 PLACE (no such one), -13 MISFIT, -14 ZERO (an int or long by 0), -15 VOID."})
    static void p24_everyFailureByItsNumber(Due due) {
        RopeDrums x = new RopeDrums();
        x.spool(1, false);
        x.rack(0, true, 1);
        x.set(1, 3, Due.d(Walk.ENDLESS));
        due.is("MISSING", x.at(1, 0), -11);
        due.is("failed", x.failed(), 1);
        due.is("PLACE", x.at(0, 1), -12);
        due.is("failed", x.failed(), 2);
        due.is("MISFIT", x.put(0, 0, 0), -13);
        due.is("failed", x.failed(), 3);
        due.is("ZERO", x.reckon(3, 0, 0, 0), -14);
        due.is("failed", x.failed(), 4);
        due.is("VOID", x.wind(0, 1), -15);
        due.is("failed", x.failed(), 5);
    }

    @Says("The FAILURE of the latest call that may fail,")
    static void p24_askingDoesNotChangeIt(Due due) {
        RopeDrums x = new RopeDrums();
        due.is("at first", x.failed(), 0);
        x.at(0, 0);
        due.is("failed", x.failed(), 1);
        due.is("failed, asked again", x.failed(), 1);
        x.count(1);
        due.is("failed, after count", x.failed(), 1);
    }

    @Says("0: it did not fail.")
    static void p24_everyCallThatMayFailAndDoesNot(Due due) {
        may(due, "reckon", x -> x.reckon(0, 1, 3, 4));
        may(due, "reckon of ints", x -> x.reckon(0, 1, 1, 1));
        may(due, "wind", x -> x.wind(0, 1));
        may(due, "write", x -> x.write(0, 0, 1));
        may(due, "read", x -> x.read(0, 0, 1));
        may(due, "rest", x -> x.rest(0, 0, 1));
        may(due, "copy", x -> x.copy(4, 0, false));
        may(due, "copy back", x -> x.copy(6, 0, true));
        may(due, "copy of no places", x -> x.copy(5, 3, false));
        may(due, "whole", x -> x.whole(0, 0));
        may(due, "put", x -> x.put(0, 0, 1));
        may(due, "put of NONE", x -> x.put(0, 0, RopeDrums.NONE));
        may(due, "at", x -> x.at(0, 0));
        may(due, "at, where nothing is", x -> x.at(0, 2));
        may(due, "weight", x -> x.weight(0, 0, false));
        may(due, "weight of a reel", x -> x.weight(0, 1, true));
        may(due, "slow by a pad", x -> x.slow(0, 1));
        may(due, "slow by a drag", x -> x.slow(1, 1));
    }

    private static void may(Due due, String name, Due.Call call) {
        for (int latest = 1; latest <= 5; latest++) {
            RopeDrums x = Walk.used(latest, y -> { });
            due.is("ahead of " + name, x.failed(), latest);
            due.isTrue(name + " does not fail", call.on(x) >= RopeDrums.NONE);
            due.is("failed after " + name, x.failed(), 0);
            for (int what = 1; what <= 5; what++) {
                due.is("count of " + what, x.count(what), what == latest ? what + 1 : what);
            }
        }
    }

    @Says("The FAILURE of the latest call that may fail,")
    static void p24_callsThatMayNotFailDoNotChangeIt(Due due) {
        mayNot(due, "set", x -> x.set(0, 0, 1));
        mayNot(due, "bits", x -> x.bits(1) > 0 ? 1 : 0);
        mayNot(due, "lane", x -> x.lane(0));
        mayNot(due, "turn", x -> x.turn(0, 1));
        mayNot(due, "compare", x -> x.compare(0, 0));
        mayNot(due, "drum", x -> x.drum(0, Due.d(1.0)));
        mayNot(due, "told", x -> x.told(0, 3));
        mayNot(due, "log", x -> x.log(0, 1));
        mayNot(due, "log that is missing then", x -> x.log(0, RopeDrums.NONE));
        mayNot(due, "spool", x -> x.spool(1, true));
        mayNot(due, "rack", x -> x.rack(0, true, 1));
        mayNot(due, "brake", x -> x.brake(0, 0, 0));
        mayNot(due, "brake that is missing then", x -> x.brake(0, 2, 0));
        mayNot(due, "count", x -> x.count(0));
    }

    private static void mayNot(Due due, String name, Due.Call call) {
        for (int latest = 1; latest <= 5; latest++) {
            RopeDrums x = Walk.used(latest, y -> { });
            due.isTrue(name + " is not refused", call.on(x) >= 0);
            due.is("failed after " + name, x.failed(), latest);
        }
    }

    @Says("and was not refused,")
    static void p24_refusedCallsDoNotChangeIt(Due due) {
        due.refused("reckon", RopeDrums.UNKNOWN, x -> x.reckon(0, 10, 0, 0));
        due.refused("reckon", RopeDrums.OUTSIDE, x -> x.reckon(9, 0, 0, 0));
        due.refused("wind", RopeDrums.UNKNOWN, x -> x.wind(9, 0));
        due.refused("write", RopeDrums.UNKNOWN, x -> x.write(9, 0, 0));
        due.refused("read", RopeDrums.UNKNOWN, x -> x.read(9, 0, 0));
        due.refused("rest", RopeDrums.UNKNOWN, x -> x.rest(9, 0, 0));
        due.refused("copy", RopeDrums.UNKNOWN, x -> x.copy(0, 0, true));
        due.refused("whole", 0, x -> x.whole(9, 0));
        due.refused("put", RopeDrums.UNKNOWN, x -> x.put(9, 0, 0));
        due.refused("at", RopeDrums.UNKNOWN, x -> x.at(9, 0));
        due.refused("weight", RopeDrums.UNKNOWN, x -> x.weight(9, 0, true));
        due.refused("slow", RopeDrums.UNKNOWN, x -> x.slow(9, 0));
    }

    @Says("and was not refused,")
    static void p24_refusedCallAfterOneThatDidNotFail(Due due) {
        RopeDrums x = new RopeDrums();
        x.at(0, 0);
        x.reckon(0, 0, 0, 0);
        x.at(9, 0);
        due.is("failed", x.failed(), 0);
    }

    // "counted as PLACE" is taken as a failure of the call, though it answers how many came.
    @Says("The FAILURE of the latest call that may fail,")
    static void p24_copyThatDidNotBringAllFailedByPlace(Due due) {
        RopeDrums x = new RopeDrums();
        x.log(4, 2);
        x.log(0, 1);
        due.is("copy", x.copy(4, 0, false), 1);
        due.is("failed", x.failed(), 2);
        due.is("copy back", x.copy(4, 0, true), 1);
        due.is("failed", x.failed(), 0);
    }
}
