/** Promise 25: count. */
public final class Promise25Test {
    public static void main(String[] args) {
        Promises.run(Promise25Test.class);
    }

    @Says("How many calls failed by a FAILURE 1 .. 5")
    static void p25_everyFailureIsCountedForItself(Due due) {
        RopeDrums x = new RopeDrums();
        x.spool(1, false);
        x.rack(0, true, 1);
        x.set(1, 3, Due.d(Walk.ENDLESS));
        for (int failure = 1; failure <= 5; failure++) {
            for (int times = 1; times <= failure; times++) {
                fail(x, failure);
                for (int what = 1; what <= 5; what++) {
                    due.is("count of " + what, x.count(what), what < failure ? what : what == failure ? times : 0);
                }
            }
        }
    }

    private static void fail(RopeDrums x, int failure) {
        switch (failure) {
            case 1 -> x.at(1, 0);
            case 2 -> x.at(0, 1);
            case 3 -> x.put(0, 0, 0);
            case 4 -> x.reckon(3, 0, 0, 0);
            default -> x.wind(0, 1);
        }
    }

    @Says("How many calls failed by a FAILURE 1 .. 5")
    static void p25_callsOfEveryKindAreCounted(Due due) {
        due.fails("reckon", 4, x -> x.reckon(4, 0, 0, 0));
        due.fails("wind", 5, x -> x.wind(0, 5));
        due.fails("write", 1, x -> x.write(3, 0, 0));
        due.fails("read", 2, x -> x.read(0, 3, 0));
        due.fails("rest", 5, x -> x.rest(0, 1, 0));
        due.fails("copy", 1, x -> x.copy(4, 3, false));
        due.failsAnswering("whole", 0, 1, x -> { }, x -> x.whole(3, 0));
        due.fails("put", 3, x -> x.put(1, 0, 0));
        due.fails("at", 2, x -> x.at(0, 3));
        due.fails("weight", 3, x -> x.weight(0, 0, true));
        due.fails("slow", 1, x -> x.slow(3, 0));
    }

    @Says("(also copy() by PLACE);")
    static void p25_copyThatDidNotBringAllIsCountedOnce(Due due) {
        RopeDrums x = new RopeDrums();
        x.log(4, 16);
        x.log(0, 1);
        due.is("copy of 16 to 1", x.copy(4, 0, false), 1);
        due.is("count of PLACE", x.count(2), 1);
        x.log(0, 0);
        due.is("copy of 16 to none", x.copy(4, 0, false), 0);
        due.is("count of PLACE", x.count(2), 2);
        due.is("copy of none", x.copy(4, 0, true), 0);
        due.is("count of PLACE", x.count(2), 2);
        for (int what = 1; what <= 5; what++) {
            due.is("count of " + what, x.count(what), what == 2 ? 2 : 0);
        }
    }

    @Says("0: SPOOLS.")
    static void p25_spoolsFrom0To30(Due due) {
        RopeDrums x = new RopeDrums();
        for (int i = 0; i < 30; i++) {
            due.is("spools", x.count(0), i);
            x.spool(i, i % 2 == 0);
            x.spool(-1, false);
        }
        due.is("spools", x.count(0), 30);
        x.spool(1, true);
        due.is("no more than that", x.count(0), 30);
    }

    @Says("REFUSALS are not counted, and come ahead of FAILURES: UNKNOWN (a number names nothing), OUTSIDE (one is not as told), FULL; of several the first that the call tells.")
    static void p25_refusalsAreNotCounted(Due due) {
        RopeDrums x = new RopeDrums();
        for (int i = 0; i < 31; i++) {
            x.spool(1, true);
        }
        due.is("UNKNOWN", x.at(5, 0), -1001);
        due.is("OUTSIDE", x.reckon(5, 0, 0, 0), -1002);
        due.is("FULL", x.spool(1, true), -1003);
        due.is("UNKNOWN, as 0", x.whole(8, 0), 0);
        for (int what = 1; what <= 5; what++) {
            due.is("count of " + what, x.count(what), 0);
        }
    }

    @Says("OUTSIDE.")
    static void p25_whatOutside(Due due) {
        for (int what : Due.beyond(6)) {
            due.refused("count(" + what + ")", RopeDrums.OUTSIDE, x -> x.count(what));
        }
    }
}
