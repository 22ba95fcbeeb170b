/** Promise 17: spool. */
public final class Promise17Test {
    public static void main(String[] args) {
        Promises.run(Promise17Test.class);
    }

    private static void fill(RopeDrums x) {
        for (int i = x.count(0); i < 30; i++) {
            x.spool(3, true);
        }
    }

    @Says({"A SPOOL: its number.", "SPOOLS are numbered from 0 on as they come,"})
    static void p17_areNumberedAsTheyCome(Due due) {
        RopeDrums x = new RopeDrums();
        for (int i = 0; i < 30; i++) {
            due.is("spool " + i, x.spool(1000 + i, i % 3 == 0), i);
            due.is("spools", x.count(0), i + 1);
        }
        x.rack(0, false, 1);
        for (int i = 0; i < 30; i++) {
            due.is("put " + i, x.put(0, 0, i), 1);
            due.is("its number", x.at(0, 0), i);
            due.is("its weight", x.weight(0, 0, false), 1000 + i);
            due.is("as a reel", x.weight(0, 0, true), i % 3 == 0 ? 2001 + 2 * i : -13);
        }
    }

    @Says("some are REELS.")
    static void p17_isAReelOnlyIfTold(Due due) {
        RopeDrums x = new RopeDrums();
        due.is("no reel", x.spool(4, false), 0);
        due.is("a reel", x.spool(4, true), 1);
        x.rack(0, true, 1);
        due.is("put of no reel", x.put(0, 0, 0), -13);
        due.is("put of a reel", x.put(0, 0, 1), 1);
    }

    @Says("OUTSIDE: weight is not 0 .. 100000;")
    static void p17_leastAndGreatestWeight(Due due) {
        RopeDrums x = new RopeDrums();
        due.is("of 0", x.spool(0, true), 0);
        due.is("of 100000", x.spool(100000, true), 1);
        x.rack(0, false, 2);
        x.put(0, 0, 0);
        x.put(0, 1, 1);
        due.is("0", x.weight(0, 0, false), 0);
        due.is("100000", x.weight(0, 1, false), 100000);
    }

    @Says("OUTSIDE: weight is not 0 .. 100000;")
    static void p17_weightOutside(Due due) {
        for (int weight : Due.beyond(100001)) {
            due.refused("spool(" + weight + ", true)", RopeDrums.OUTSIDE, x -> x.spool(weight, true));
            due.refused("spool(" + weight + ", false)", RopeDrums.OUTSIDE, x -> x.spool(weight, false));
        }
    }

    @Says("OUTSIDE: weight is not 0 .. 100000;")
    static void p17_refusedOneTakesNoNumber(Due due) {
        RopeDrums x = new RopeDrums();
        x.spool(1, false);
        x.spool(-1, false);
        x.spool(100001, true);
        due.is("the next", x.spool(1, false), 1);
    }

    @Says({"FULL.", "30 at most;"})
    static void p17_full(Due due) {
        RopeDrums x = new RopeDrums();
        for (int i = 0; i < 29; i++) {
            x.spool(1, false);
        }
        due.is("the 30th", x.spool(0, true), 29);
        due.is("the 31st", x.spool(0, true), RopeDrums.FULL);
        due.is("the 31st, no reel", x.spool(100000, false), RopeDrums.FULL);
        due.is("spools", x.count(0), 30);
        x.rack(0, false, 1);
        due.is("number 29", x.put(0, 0, 29), 1);
        due.is("number 30", x.put(0, 0, 30), RopeDrums.UNKNOWN);
        due.is("number 29 is still there", x.at(0, 0), 29);
    }

    @Says("FULL.")
    static void p17_fullChangesNothing(Due due) {
        due.refused("spool(1, true)", RopeDrums.FULL, Promise17Test::fill, x -> x.spool(1, true));
        due.refused("spool(1, false)", RopeDrums.FULL, Promise17Test::fill, x -> x.spool(1, false));
    }

    @Says("of several the first that the call tells.")
    static void p17_outsideIsToldAheadOfFull(Due due) {
        for (int weight : Due.beyond(100001)) {
            due.refused("spool(" + weight + ", true)", RopeDrums.OUTSIDE, Promise17Test::fill, x -> x.spool(weight, true));
        }
    }
}
