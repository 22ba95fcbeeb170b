/** Promises 17 to 21: spool, rack, put, at, weight. */
public final class RacksTest {
    private static final Due due = new Due();
    private static final int[] NO_PLACES = {-1, 3, 12, Integer.MIN_VALUE, Integer.MAX_VALUE};

    public static void main(String[] args) {
        spools();
        newRows();
        putting();
        reelsAlone();
        weights();
        refusals();
        due.end();
    }

    private static void spools() {
        RopeDrums x = new RopeDrums();
        int[] wrong = {-1, 100001, Integer.MIN_VALUE, Integer.MAX_VALUE};
        for (int i = 0; i < 30; i++) {
            for (int weight : wrong) {
                due.is("spool of " + weight, x.spool(weight, false), RopeDrums.OUTSIDE);
            }
            due.is("spools", x.count(0), i);
            due.is("spool " + i, x.spool(i == 0 ? 0 : i == 1 ? 100000 : i, i % 2 == 0), i);
        }
        due.is("one more", x.spool(1, true), RopeDrums.FULL);
        due.is("one more, weight wrong too", x.spool(-1, true), RopeDrums.OUTSIDE);
        due.is("spools", x.count(0), 30);
        x.rack(0, false, 12);
        due.is("the last", x.put(0, 0, 29), 1);
        due.is("its weight", x.weight(0, 0, false), 29);
        due.is("beyond", x.put(0, 0, 30), RopeDrums.UNKNOWN);
    }

    private static void newRows() {
        RopeDrums x = new RopeDrums();
        x.spool(7, true);
        for (int rack = 0; rack < 5; rack++) {
            due.is("missing", x.at(rack, 0), -11);
            due.is("rack of 12", x.rack(rack, rack % 2 == 0, 12), 1);
            for (int i = 0; i < 12; i++) {
                due.is("nothing", x.at(rack, i), RopeDrums.NONE);
                due.is("put", x.put(rack, i, 0), 1);
            }
            due.is("place 12", x.at(rack, 12), -12);
            due.is("rack of 2", x.rack(rack, false, 2), 1);
            due.is("nothing", x.at(rack, 0), RopeDrums.NONE);
            due.is("place 2", x.at(rack, 2), -12);
            x.rack(rack, false, 12);
            due.is("nothing at the end either", x.at(rack, 11), RopeDrums.NONE);
            due.is("rack of none", x.rack(rack, true, 0), 1);
            due.is("place 0", x.at(rack, 0), -12);
            due.is("rack missing", x.rack(rack, true, RopeDrums.NONE), 1);
            due.is("missing", x.at(rack, 0), -11);
        }
        x.rack(1, true, 1);
        x.put(1, 0, 0);
        int[] wrong = {-2, 13, Integer.MIN_VALUE, Integer.MAX_VALUE};
        for (int n : wrong) {
            due.is("rack of " + n, x.rack(1, false, n), RopeDrums.OUTSIDE);
        }
        due.is("as it was", x.at(1, 0), 0);
    }

    private static void putting() {
        RopeDrums x = new RopeDrums();
        x.spool(5, false);
        x.spool(6, true);
        due.is("put, missing", x.put(0, 0, 1), -11);
        due.is("put nothing, missing", x.put(0, 0, RopeDrums.NONE), -11);
        x.rack(0, false, 3);
        due.is("put", x.put(0, 1, 0), 1);
        due.is("put", x.put(0, 2, 1), 1);
        due.is("at", x.at(0, 0), RopeDrums.NONE);
        due.is("at", x.at(0, 1), 0);
        due.is("at", x.at(0, 2), 1);
        due.is("put another", x.put(0, 1, 1), 1);
        due.is("at", x.at(0, 1), 1);
        due.is("put nothing", x.put(0, 1, RopeDrums.NONE), 1);
        due.is("at", x.at(0, 1), RopeDrums.NONE);
        due.is("failed", x.failed(), 0);
        for (int i : NO_PLACES) {
            due.is("put " + i, x.put(0, i, 1), -12);
            due.is("put nothing " + i, x.put(0, i, RopeDrums.NONE), -12);
            due.is("at " + i, x.at(0, i), -12);
            due.is("failed", x.failed(), 2);
        }
        due.is("count MISSING", x.count(1), 2);
        due.is("count PLACE", x.count(2), 3 * NO_PLACES.length);
    }

    private static void reelsAlone() {
        RopeDrums x = new RopeDrums();
        x.spool(5, false);
        x.spool(6, true);
        x.rack(3, true, 3);
        due.is("a reel", x.put(3, 0, 1), 1);
        due.is("no reel", x.put(3, 0, 0), -13);
        due.is("failed", x.failed(), 3);
        due.is("no reel, no place", x.put(3, 3, 0), -12);
        due.is("as it was", x.at(3, 0), 1);
        due.is("nothing", x.put(3, 0, RopeDrums.NONE), 1);
        due.is("at", x.at(3, 0), RopeDrums.NONE);
        due.is("count", x.count(3), 1);
        x.rack(3, false, 3);
        due.is("no reel, now for all", x.put(3, 0, 0), 1);
        x.rack(3, true, 3);
        due.is("no reel, now for reels", x.put(3, 0, 0), -13);
        x.rack(3, true, RopeDrums.NONE);
        due.is("no reel, missing", x.put(3, 0, 0), -11);
    }

    private static void weights() {
        RopeDrums x = new RopeDrums();
        x.spool(100000, false);
        x.spool(100000, true);
        x.spool(0, true);
        due.is("missing", x.weight(2, 0, false), -11);
        due.is("missing, as a reel", x.weight(2, 0, true), -11);
        x.rack(2, false, 3);
        x.rack(4, true, 3);
        x.put(2, 0, 0);
        x.put(2, 1, 1);
        x.put(4, 1, 2);
        due.is("weight", x.weight(2, 0, false), 100000);
        due.is("as a reel, but none", x.weight(2, 0, true), -13);
        due.is("failed", x.failed(), 3);
        due.is("a reel's", x.weight(2, 1, false), 100000);
        due.is("failed", x.failed(), 0);
        due.is("as a reel", x.weight(2, 1, true), 200001);
        due.is("as a reel", x.weight(4, 1, true), 1);
        due.is("a reel's", x.weight(4, 1, false), 0);
        due.is("nothing", x.weight(2, 2, false), -11);
        due.is("nothing, as a reel", x.weight(2, 2, true), -11);
        due.is("failed", x.failed(), 1);
        for (int i : NO_PLACES) {
            due.is("weight " + i, x.weight(2, i, false), -12);
            due.is("as a reel " + i, x.weight(2, i, true), -12);
        }
        due.is("count MISSING", x.count(1), 4);
        due.is("count PLACE", x.count(2), 2 * NO_PLACES.length);
        due.is("count MISFIT", x.count(3), 1);
    }

    private static void refusals() {
        RopeDrums x = new RopeDrums();
        x.spool(1, false);
        x.at(0, 0);
        int[] nothing = {-1, 5, Integer.MIN_VALUE, Integer.MAX_VALUE};
        for (int rack : nothing) {
            due.is("rack", x.rack(rack, true, 1), RopeDrums.UNKNOWN);
            due.is("rack, n wrong too", x.rack(rack, true, 13), RopeDrums.UNKNOWN);
            due.is("put", x.put(rack, 0, 0), RopeDrums.UNKNOWN);
            due.is("put nothing", x.put(rack, 0, RopeDrums.NONE), RopeDrums.UNKNOWN);
            due.is("at", x.at(rack, 0), RopeDrums.UNKNOWN);
            due.is("weight", x.weight(rack, 0, true), RopeDrums.UNKNOWN);
        }
        int[] noSpools = {-2, 1, 30, Integer.MIN_VALUE, Integer.MAX_VALUE};
        for (int spool : noSpools) {
            due.is("put, ahead of MISSING", x.put(0, 0, spool), RopeDrums.UNKNOWN);
        }
        due.is("failed", x.failed(), 1);
        due.is("count", x.count(1), 1);
    }
}
