/** Promise 21: weight. */
public final class Promise21Test {
    public static void main(String[] args) {
        Promises.run(Promise21Test.class);
    }

    /** One spool at the last place of a rack of 12. */
    private static RopeDrums with(int rack, int weight, boolean reel) {
        RopeDrums x = new RopeDrums();
        x.rack(rack, false, 12);
        x.spool(weight, reel);
        x.put(rack, 11, 0);
        x.whole(0, 0);
        return x;
    }

    @Says("A SPOOL's weight;")
    static void p21_weightAtBothEnds(Due due) {
        for (int weight : new int[] {0, 1, 99999, 100000}) {
            for (int rack = 0; rack < 5; rack++) {
                RopeDrums x = with(rack, weight, false);
                due.is("weight(" + rack + ", 11, false)", x.weight(rack, 11, false), weight);
                due.is("failed", x.failed(), 0);
            }
        }
    }

    @Says("of one that is asked as a REEL (reel) twice that and 1.")
    static void p21_asAReelTwiceThatAnd1(Due due) {
        for (int weight : new int[] {0, 1, 99999, 100000}) {
            for (int rack = 0; rack < 5; rack++) {
                RopeDrums x = with(rack, weight, true);
                due.is("weight(" + rack + ", 11, true)", x.weight(rack, 11, true), 2 * weight + 1);
                due.is("failed", x.failed(), 0);
            }
        }
    }

    @Says("A SPOOL's weight; of one that is asked as a REEL (reel)")
    static void p21_reelThatIsNotAskedAsOne(Due due) {
        RopeDrums x = with(0, 100000, true);
        due.is("weight(0, 11, false)", x.weight(0, 11, false), 100000);
        due.is("failed", x.failed(), 0);
        x.rack(1, true, 1);
        x.put(1, 0, 0);
        due.is("in a rack for reels alone", x.weight(1, 0, false), 100000);
        due.is("there, as a reel", x.weight(1, 0, true), 200001);
    }

    @Says("UNKNOWN.")
    static void p21_unknownRack(Due due) {
        for (int rack : Due.beyond(5)) {
            due.refused("weight(" + rack + ", 0, false)", RopeDrums.UNKNOWN, x -> x.weight(rack, 0, false));
            due.refused("weight(" + rack + ", 0, true)", RopeDrums.UNKNOWN, x -> x.weight(rack, 0, true));
        }
    }

    @Says("REFUSALS are not counted, and come ahead of FAILURES:")
    static void p21_unknownRackIsToldAheadOfPlace(Due due) {
        for (int rack : Due.beyond(5)) {
            due.refused("weight(" + rack + ", -1, true)", RopeDrums.UNKNOWN, x -> x.weight(rack, -1, true));
        }
    }

    @Says("MISSING (the RACK);")
    static void p21_missingRack(Due due) {
        due.fails("weight(4, 0, false)", 1, x -> x.weight(4, 0, false));
        due.fails("weight(4, 0, true)", 1, x -> x.weight(4, 0, true));
    }

    @Says("MISSING (the RACK); PLACE;")
    static void p21_missingRackIsToldAheadOfPlace(Due due) {
        for (int i : Due.beyond(12)) {
            due.fails("weight(4, " + i + ", false)", 1, x -> x.weight(4, i, false));
            due.fails("weight(4, " + i + ", true)", 1, x -> x.weight(4, i, true));
        }
    }

    @Says("PLACE;")
    static void p21_noSuchPlace(Due due) {
        for (int i : Due.beyond(3)) {
            due.fails("weight(0, " + i + ", false)", 2, x -> x.weight(0, i, false));
            due.fails("weight(1, " + i + ", true)", 2, x -> x.weight(1, i, true));
        }
        due.fails("weight(2, 0, false)", 2, x -> x.weight(2, 0, false));
        due.fails("weight(2, 0, true)", 2, x -> x.weight(2, 0, true));
        due.fails("weight(3, 12, true)", 2, x -> x.weight(3, 12, true));
    }

    @Says("MISFIT: it is asked as a REEL, and is none;")
    static void p21_noReelAskedAsOneIsAMisfit(Due due) {
        due.fails("weight(0, 0, true)", 3, x -> x.weight(0, 0, true));
        due.fails("weight(3, 11, true)", 3, x -> x.weight(3, 11, true));
    }

    @Says("MISSING: nothing is there.")
    static void p21_nothingThereIsMissing(Due due) {
        due.fails("weight(0, 2, false)", 1, x -> x.weight(0, 2, false));
        due.fails("weight(1, 1, false)", 1, x -> x.weight(1, 1, false));
        due.fails("taken away", 1, x -> x.put(0, 0, RopeDrums.NONE), x -> x.weight(0, 0, false));
    }

    // What is not there is no spool that could be a misfit.
    @Says("MISSING: nothing is there.")
    static void p21_nothingAskedAsAReelIsMissingToo(Due due) {
        due.fails("weight(0, 2, true)", 1, x -> x.weight(0, 2, true));
        due.fails("weight(1, 2, true)", 1, x -> x.weight(1, 2, true));
    }
}
