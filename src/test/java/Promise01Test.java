/** Promise 1: a new object. */
public final class Promise01Test {
    public static void main(String[] args) {
        Promises.run(Promise01Test.class);
    }

    @Says("METERS 0 .. 9 hold a number of a LANE, at first the int 0.")
    static void p01_metersHoldTheInt0AtFirst(Due due) {
        RopeDrums x = new RopeDrums();
        for (int meter = 0; meter < 10; meter++) {
            due.is("lane " + meter, x.lane(meter), 0);
            due.is("bits " + meter, x.bits(meter), 0);
        }
    }

    @Says("DRUMS 0 .. 5 have AROUND (a double, 1.0 at first), AT, ROPE (doubles, 0.0 at first), TURNS (a long, 0 at first).")
    static void p01_drumsAreOf1AndNotWoundOnAtFirst(Due due) {
        RopeDrums x = new RopeDrums();
        for (int drum = 0; drum < 6; drum++) {
            due.is("around " + drum, x.told(drum, 0), Due.d(1.0));
            due.is("at " + drum, x.told(drum, 1), Due.d(0.0));
            due.is("rope " + drum, x.told(drum, 2), Due.d(0.0));
            due.is("turns " + drum, x.told(drum, 3), 0);
        }
    }

    @Says("LOGS 0 .. 3 are of floats, 4 .. 7 of doubles: a row of places, or none: it is MISSING (at first).")
    static void p01_logsAreMissingAtFirst(Due due) {
        RopeDrums x = new RopeDrums();
        for (int log = 0; log < 8; log++) {
            due.is("read " + log, x.read(log, 0, 0), -11);
        }
    }

    @Says("LOGS 0 .. 3 are of floats, 4 .. 7 of doubles:")
    static void p01_logsAreOfFloatsOrOfDoublesFromTheFirst(Due due) {
        RopeDrums x = new RopeDrums();
        for (int log = 0; log < 8; log++) {
            x.log(log, 1);
            due.is("read " + log, x.read(log, 0, 0), log < 4 ? 2 : 3);
        }
    }

    @Says("RACKS 0 .. 4 are a row of places for SPOOLS (REELS, too), or for REELS alone, or MISSING (at first).")
    static void p01_racksAreMissingAtFirst(Due due) {
        RopeDrums x = new RopeDrums();
        for (int rack = 0; rack < 5; rack++) {
            due.is("at " + rack, x.at(rack, 0), -11);
        }
    }

    @Says("BRAKES 0 .. 3 are MISSING (at first), PADS or DRAGS with a GRIP, a double.")
    static void p01_brakesAreMissingAtFirst(Due due) {
        RopeDrums x = new RopeDrums();
        for (int brake = 0; brake < 4; brake++) {
            due.is("slow " + brake, x.slow(brake, 0), -11);
        }
    }

    @Says("no SPOOLS;")
    static void p01_thereAreNoSpools(Due due) {
        RopeDrums x = new RopeDrums();
        due.is("count", x.count(0), 0);
        x.rack(0, false, 1);
        due.is("put of spool 0", x.put(0, 0, 0), RopeDrums.UNKNOWN);
        due.is("the first", x.spool(1, false), 0);
    }

    @Says("nothing was counted.")
    static void p01_nothingWasCounted(Due due) {
        RopeDrums x = new RopeDrums();
        for (int what = 1; what <= 5; what++) {
            due.is("count " + what, x.count(what), 0);
        }
        due.is("failed", x.failed(), 0);
    }

    @Says("All as told at first;")
    static void p01_whatOneObjectIsToldDoesNotReachAnother(Due due) {
        RopeDrums first = new RopeDrums();
        for (int i = 0; i < 10; i++) {
            first.set(i, 3, Due.d(4.5));
            first.drum(i, Due.d(2.0));
            first.wind(i, 0);
            first.log(i, 3);
            first.spool(5, true);
            first.rack(i, true, 3);
            first.brake(i, 0, Due.d(2.0));
            first.read(0, 9, 0);
        }
        RopeDrums x = new RopeDrums();
        due.is("failed", x.failed(), 0);
        due.is("count of PLACE", x.count(2), 0);
        due.is("spools", x.count(0), 0);
        due.is("lane", x.lane(9), 0);
        due.is("bits", x.bits(9), 0);
        due.is("around", x.told(5, 0), Due.d(1.0));
        due.is("rope", x.told(5, 2), Due.d(0.0));
        due.is("log", x.read(0, 0, 0), -11);
        due.is("rack", x.at(0, 0), -11);
        due.is("brake", x.slow(0, 0), -11);
        due.is("and the first is as it was", first.bits(9), Due.d(4.5));
    }

    @Says("An object is used for at most 512 calls after it has been made;")
    static void p01_the512thCallIsAnsweredToo(Due due) {
        RopeDrums x = new RopeDrums();
        for (int call = 1; call <= 510; call++) {
            due.is("call " + call, x.at(0, 0), -11);
        }
        due.is("call 511", x.count(1), 510);
        due.is("call 512", x.failed(), 1);
    }
}
