/** Promise 18: rack. */
public final class Promise18Test {
    public static void main(String[] args) {
        Promises.run(Promise18Test.class);
    }

    private static void rowOf(Due due, RopeDrums x, int rack, int n) {
        for (int i = 0; i < n; i++) {
            due.is("place " + i + " of rack " + rack, x.at(rack, i), RopeDrums.NONE);
        }
        due.is("place " + n + " of rack " + rack, x.at(rack, n), -12);
    }

    @Says("A RACK has a new row of n places (for REELS alone, or all SPOOLS), with nothing in them")
    static void p18_newRowOfEveryLength(Due due) {
        for (int n = 0; n <= 12; n++) {
            RopeDrums x = new RopeDrums();
            for (int rack = 0; rack < 5; rack++) {
                due.is("rack(" + rack + ", true, " + n + ")", x.rack(rack, true, n), 1);
                rowOf(due, x, rack, n);
                due.is("rack(" + rack + ", false, " + n + ")", x.rack(rack, false, n), 1);
                rowOf(due, x, rack, n);
            }
        }
    }

    @Says("with nothing in them")
    static void p18_whatStoodThereIsGone(Due due) {
        for (int rack = 0; rack < 5; rack++) {
            for (int n : new int[] {12, 5, 1, 0}) {
                RopeDrums x = new RopeDrums();
                x.spool(1, true);
                x.rack(rack, n % 2 == 0, 12);
                for (int i = 0; i < 12; i++) {
                    x.put(rack, i, 0);
                }
                due.is("as long or shorter", x.rack(rack, true, n), 1);
                rowOf(due, x, rack, n);
                due.is("longer again", x.rack(rack, true, 12), 1);
                rowOf(due, x, rack, 12);
            }
        }
    }

    @Says("(for REELS alone, or all SPOOLS),")
    static void p18_kindIsThatOfTheLatest(Due due) {
        RopeDrums x = new RopeDrums();
        x.spool(1, false);
        for (int rack = 0; rack < 5; rack++) {
            x.rack(rack, true, 1);
            due.is("for reels alone", x.put(rack, 0, 0), -13);
            x.rack(rack, false, 1);
            due.is("for all", x.put(rack, 0, 0), 1);
            x.rack(rack, true, 1);
            due.is("for reels alone again", x.put(rack, 0, 0), -13);
        }
    }

    @Says("A RACK has a new row of n places")
    static void p18_otherRacksKeepTheirs(Due due) {
        for (int rack = 0; rack < 5; rack++) {
            RopeDrums x = new RopeDrums();
            x.spool(1, false);
            int other = (rack + 1) % 5;
            x.rack(rack, false, 2);
            x.put(rack, 1, 0);
            x.rack(other, true, 3);
            due.is("its spool", x.at(rack, 1), 0);
            due.is("its length", x.at(rack, 2), -12);
            due.is("its kind", x.put(rack, 0, 0), 1);
        }
    }

    @Says("n places")
    static void p18_rowOf0PlacesIsNotMissing(Due due) {
        RopeDrums x = new RopeDrums();
        for (int rack = 0; rack < 5; rack++) {
            due.is("rack(" + rack + ", false, 0)", x.rack(rack, false, 0), 1);
            due.is("at", x.at(rack, 0), -12);
        }
    }

    @Says("(n = NONE: it is MISSING): 1.")
    static void p18_noneMakesItMissing(Due due) {
        RopeDrums x = new RopeDrums();
        x.spool(1, true);
        for (int rack = 0; rack < 5; rack++) {
            due.is("a missing one", x.rack(rack, true, RopeDrums.NONE), 1);
            due.is("at", x.at(rack, 0), -11);
            x.rack(rack, true, 2);
            x.put(rack, 1, 0);
            due.is("one with places", x.rack(rack, false, RopeDrums.NONE), 1);
            due.is("at", x.at(rack, 1), -11);
            due.is("a row again", x.rack(rack, true, 2), 1);
            rowOf(due, x, rack, 2);
        }
    }

    @Says("UNKNOWN;")
    static void p18_unknownRack(Due due) {
        for (int rack : Due.beyond(5)) {
            due.refused("rack(" + rack + ", true, 1)", RopeDrums.UNKNOWN, x -> x.rack(rack, true, 1));
            due.refused("rack(" + rack + ", false, NONE)", RopeDrums.UNKNOWN,
                    x -> x.rack(rack, false, RopeDrums.NONE));
        }
    }

    @Says("OUTSIDE: n is not NONE .. 12.")
    static void p18_lengthOutside(Due due) {
        for (int n : new int[] {-2, 13, Integer.MIN_VALUE, Integer.MAX_VALUE}) {
            due.refused("rack(0, true, " + n + ")", RopeDrums.OUTSIDE, x -> x.rack(0, true, n));
            due.refused("rack(1, false, " + n + ")", RopeDrums.OUTSIDE, x -> x.rack(1, false, n));
            due.refused("rack(4, false, " + n + ")", RopeDrums.OUTSIDE, x -> x.rack(4, false, n));
        }
    }

    @Says("of several the first that the call tells.")
    static void p18_unknownIsToldAheadOfOutside(Due due) {
        for (int rack : Due.beyond(5)) {
            due.refused("rack(" + rack + ", true, 13)", RopeDrums.UNKNOWN, x -> x.rack(rack, true, 13));
        }
    }
}
