/** Promise 19: put. */
public final class Promise19Test {
    public static void main(String[] args) {
        Promises.run(Promise19Test.class);
    }

    /** Spool 0 is no reel, spool 1 is one. */
    private static RopeDrums withSpools() {
        RopeDrums x = new RopeDrums();
        x.spool(5, false);
        x.spool(6, true);
        x.at(0, 0);
        return x;
    }

    @Says("A SPOOL (NONE: nothing) comes to place i of a RACK: 1.")
    static void p19_firstAndLastPlaceOfEveryRack(Due due) {
        for (int rack = 0; rack < 5; rack++) {
            RopeDrums x = withSpools();
            x.rack(rack, false, 12);
            due.is("put at 0", x.put(rack, 0, 0), 1);
            due.is("failed", x.failed(), 0);
            due.is("put at 11", x.put(rack, 11, 1), 1);
            due.is("at 0", x.at(rack, 0), 0);
            due.is("at 11", x.at(rack, 11), 1);
            for (int i = 1; i < 11; i++) {
                due.is("at " + i, x.at(rack, i), RopeDrums.NONE);
            }
        }
    }

    @Says("A SPOOL (NONE: nothing) comes to place i of a RACK: 1.")
    static void p19_takesThePlaceOfAnother(Due due) {
        RopeDrums x = withSpools();
        x.rack(0, false, 2);
        x.put(0, 1, 0);
        due.is("put another", x.put(0, 1, 1), 1);
        due.is("at", x.at(0, 1), 1);
        due.is("put at a place more", x.put(0, 0, 1), 1);
        due.is("at", x.at(0, 0), 1);
        due.is("it is at the first place, too", x.at(0, 1), 1);
    }

    @Says("(NONE: nothing)")
    static void p19_noneMakesAPlaceEmpty(Due due) {
        RopeDrums x = withSpools();
        x.rack(0, false, 2);
        x.put(0, 0, 0);
        x.put(0, 1, 1);
        due.is("put of NONE", x.put(0, 1, RopeDrums.NONE), 1);
        due.is("at", x.at(0, 1), RopeDrums.NONE);
        due.is("the other place", x.at(0, 0), 0);
        due.is("once more", x.put(0, 1, RopeDrums.NONE), 1);
        due.is("failed", x.failed(), 0);
    }

    @Says("(NONE: nothing)")
    static void p19_noneIsNoMisfitForReelsAlone(Due due) {
        RopeDrums x = withSpools();
        x.rack(0, true, 1);
        x.put(0, 0, 1);
        due.is("put of NONE", x.put(0, 0, RopeDrums.NONE), 1);
        due.is("failed", x.failed(), 0);
        due.is("at", x.at(0, 0), RopeDrums.NONE);
    }

    @Says("a row of places for SPOOLS (REELS, too),")
    static void p19_reelsComeToEveryRack(Due due) {
        RopeDrums x = withSpools();
        x.rack(0, false, 1);
        x.rack(1, true, 1);
        due.is("a rack for all", x.put(0, 0, 1), 1);
        due.is("a rack for reels alone", x.put(1, 0, 1), 1);
        due.is("at", x.at(0, 0), 1);
        due.is("at", x.at(1, 0), 1);
    }

    @Says("UNKNOWN.")
    static void p19_unknownRack(Due due) {
        for (int rack : Due.beyond(5)) {
            due.refused("put(" + rack + ", 0, 1)", RopeDrums.UNKNOWN, x -> x.put(rack, 0, 1));
            due.refused("put(" + rack + ", 0, NONE)", RopeDrums.UNKNOWN, x -> x.put(rack, 0, RopeDrums.NONE));
        }
    }

    @Says("UNKNOWN.")
    static void p19_unknownSpool(Due due) {
        for (int spool : new int[] {-2, 3, 29, 30, Integer.MIN_VALUE, Integer.MAX_VALUE}) {
            due.refused("put(0, 0, " + spool + ")", RopeDrums.UNKNOWN, x -> x.put(0, 0, spool));
            due.refused("put(1, 0, " + spool + ")", RopeDrums.UNKNOWN, x -> x.put(1, 0, spool));
        }
    }

    @Says("REFUSALS are not counted, and come ahead of FAILURES:")
    static void p19_unknownSpoolIsToldAheadOfMissingAndPlace(Due due) {
        due.refused("put(4, 0, 3)", RopeDrums.UNKNOWN, x -> x.put(4, 0, 3));
        due.refused("put(0, 3, -2)", RopeDrums.UNKNOWN, x -> x.put(0, 3, -2));
        due.refused("put(2, 0, 3)", RopeDrums.UNKNOWN, x -> x.put(2, 0, 3));
    }

    @Says("MISSING;")
    static void p19_missingRack(Due due) {
        due.fails("put(4, 0, 1)", 1, x -> x.put(4, 0, 1));
        due.fails("put(4, 0, NONE)", 1, x -> x.put(4, 0, RopeDrums.NONE));
    }

    @Says("MISSING; PLACE;")
    static void p19_missingIsToldAheadOfPlace(Due due) {
        for (int i : Due.beyond(12)) {
            due.fails("put(4, " + i + ", 1)", 1, x -> x.put(4, i, 1));
        }
    }

    @Says("MISSING; PLACE; MISFIT:")
    static void p19_missingIsToldAheadOfMisfit(Due due) {
        due.fails("put(4, 0, 0)", 1, x -> x.rack(4, true, RopeDrums.NONE), x -> x.put(4, 0, 0));
    }

    @Says("PLACE;")
    static void p19_noSuchPlace(Due due) {
        for (int i : Due.beyond(3)) {
            due.fails("put(0, " + i + ", 0)", 2, x -> x.put(0, i, 0));
            due.fails("put(0, " + i + ", NONE)", 2, x -> x.put(0, i, RopeDrums.NONE));
            due.fails("put(1, " + i + ", 1)", 2, x -> x.put(1, i, 1));
        }
        due.fails("put(2, 0, 1)", 2, x -> x.put(2, 0, 1));
        due.fails("put(3, 12, 1)", 2, x -> x.put(3, 12, 1));
    }

    @Says("PLACE; MISFIT:")
    static void p19_placeIsToldAheadOfMisfit(Due due) {
        for (int i : Due.beyond(3)) {
            due.fails("put(1, " + i + ", 0)", 2, x -> x.put(1, i, 0));
        }
        due.fails("put(2, 0, 0)", 2, x -> x.put(2, 0, 0));
    }

    @Says({"MISFIT: it is no REEL, and the RACK is for REELS alone.", "-13 MISFIT,"})
    static void p19_noReelIsAMisfitForReelsAlone(Due due) {
        due.fails("put(1, 0, 0), where a reel is", 3, x -> x.put(1, 0, 0));
        due.fails("put(1, 1, 0), where nothing is", 3, x -> x.put(1, 1, 0));
        due.fails("put(1, 2, 2)", 3, x -> x.put(1, 2, 2));
    }

    @Says("MISFIT: it is no REEL, and the RACK is for REELS alone.")
    static void p19_noReelFitsElsewhere(Due due) {
        RopeDrums x = withSpools();
        x.rack(0, false, 1);
        due.is("put", x.put(0, 0, 0), 1);
        due.is("failed", x.failed(), 0);
        due.is("count of MISFIT", x.count(3), 0);
    }
}
