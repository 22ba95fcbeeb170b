/** Promise 20: at. */
public final class Promise20Test {
    public static void main(String[] args) {
        Promises.run(Promise20Test.class);
    }

    @Says("The SPOOL at place i of a RACK;")
    static void p20_firstAndLastPlaceOfEveryRack(Due due) {
        for (int rack = 0; rack < 5; rack++) {
            RopeDrums x = new RopeDrums();
            x.rack(rack, rack % 2 == 0, 12);
            for (int i = 0; i < 12; i++) {
                x.spool(i, true);
                x.put(rack, i, i);
            }
            x.whole(0, 0);
            for (int i = 0; i < 12; i++) {
                due.is("at(" + rack + ", " + i + ")", x.at(rack, i), i);
                due.is("failed", x.failed(), 0);
            }
        }
    }

    @Says("NONE.")
    static void p20_noneWhereNothingIs(Due due) {
        RopeDrums x = new RopeDrums();
        x.rack(0, false, 1);
        x.rack(1, true, 1);
        x.whole(0, 0);
        due.is("at(0, 0)", x.at(0, 0), RopeDrums.NONE);
        due.is("it does not fail", x.failed(), 0);
        due.is("at(1, 0)", x.at(1, 0), RopeDrums.NONE);
        due.is("count of MISSING", x.count(1), 1);
    }

    @Says("UNKNOWN.")
    static void p20_unknownRack(Due due) {
        for (int rack : Due.beyond(5)) {
            due.refused("at(" + rack + ", 0)", RopeDrums.UNKNOWN, x -> x.at(rack, 0));
        }
    }

    @Says("REFUSALS are not counted, and come ahead of FAILURES:")
    static void p20_unknownRackIsToldAheadOfPlace(Due due) {
        for (int rack : Due.beyond(5)) {
            due.refused("at(" + rack + ", -1)", RopeDrums.UNKNOWN, x -> x.at(rack, -1));
        }
    }

    @Says("MISSING,")
    static void p20_missingRack(Due due) {
        due.fails("at(4, 0)", 1, x -> x.at(4, 0));
    }

    @Says("MISSING, PLACE.")
    static void p20_missingIsToldAheadOfPlace(Due due) {
        for (int i : Due.beyond(12)) {
            due.fails("at(4, " + i + ")", 1, x -> x.at(4, i));
        }
    }

    @Says("PLACE.")
    static void p20_noSuchPlace(Due due) {
        for (int i : Due.beyond(3)) {
            due.fails("at(0, " + i + ")", 2, x -> x.at(0, i));
            due.fails("at(1, " + i + ")", 2, x -> x.at(1, i));
        }
        for (int i : Due.beyond(12)) {
            due.fails("at(3, " + i + ")", 2, x -> x.at(3, i));
        }
        due.fails("at(2, 0)", 2, x -> x.at(2, 0));
    }
}
