/** Promise 15: copy. */
public final class Promise15Test {
    private static final double ENDLESS = Walk.ENDLESS;

    public static void main(String[] args) {
        Promises.run(Promise15Test.class);
    }

    /** A log of n places, or a missing one, that hold first, first + 1, .. */
    private static void fill(RopeDrums x, int log, int n, int first) {
        x.log(log, n);
        for (int i = 0; i < n; i++) {
            x.set(9, 0, first + i);
            x.write(log, i, 9);
        }
    }

    private static void holds(Due due, RopeDrums x, int log, int from, int to, int first) {
        for (int i = from; i < to; i++) {
            due.is("place " + i + " of log " + log, x.whole(log, i), first + i);
        }
    }

    /** From a row of some places to one of others: what came, what did not, and what is told of it. */
    private static void copied(Due due, boolean back, int places, int there) {
        RopeDrums x = new RopeDrums();
        int from = back ? 3 : 7;
        int to = back ? 7 : 3;
        int came = Math.min(places, there);
        boolean all = came == places;
        fill(x, from, places, 100);
        fill(x, to, there, 200);
        x.at(0, 0);
        String call = "copy, back = " + back + ", " + places + " to " + there;
        due.is(call, x.copy(7, 3, back), came);
        due.is(call + ", failed", x.failed(), all ? 0 : 2);
        due.is(call + ", count of PLACE", x.count(2), all ? 0 : 1);
        due.is(call + ", count of MISSING", x.count(1), 1);
        holds(due, x, from, 0, places, 100);
        holds(due, x, to, 0, came, 100);
        holds(due, x, to, came, there, 200);
        due.is(call + ", as many places here", x.read(from, places, 0), -12);
        due.is(call + ", as many places there", x.read(to, there, 0), -12);
    }

    private static void comes(Due due, boolean back, double given, double want) {
        RopeDrums x = new RopeDrums();
        x.log(4, 1);
        x.log(0, 1);
        x.set(0, 3, Due.d(given));
        x.write(back ? 0 : 4, 0, 0);
        due.is("copy of " + given, x.copy(4, 0, back), 1);
        x.read(back ? 4 : 0, 0, 1);
        due.is("there", x.bits(1), back ? Due.d(want) : Due.f((float) want));
        x.read(back ? 0 : 4, 0, 1);
        due.is("here", x.bits(1), back ? Due.f((float) given) : Due.d(given));
    }

    @Says("Each place of a LOG of doubles, from 0 on, comes, TURNED, to the same place of a LOG of floats (back = false),")
    static void p15_doublesAreTurnedIntoFloats(Due due) {
        comes(due, false, 0.1, 0.1f);
        comes(due, false, -0.0, -0.0);
        comes(due, false, 16777217.0, 16777216.0);
        comes(due, false, 0x1.000003p0, 0x1.000004p0);
        comes(due, false, 1e300, ENDLESS);
        comes(due, false, -1e39, -ENDLESS);
        comes(due, false, -1e-320, -0.0);
        comes(due, false, -ENDLESS, -ENDLESS);
    }

    @Says("or the other way (back = true),")
    static void p15_floatsComeBackAsTheSameNumbers(Due due) {
        comes(due, true, 0.1f, (double) 0.1f);
        comes(due, true, -0.0, -0.0);
        comes(due, true, Float.MIN_VALUE, Float.MIN_VALUE);
        comes(due, true, -Float.MAX_VALUE, -Float.MAX_VALUE);
        comes(due, true, ENDLESS, ENDLESS);
    }

    @Says("Each place of a LOG of doubles, from 0 on,")
    static void p15_asManyPlacesThere(Due due) {
        for (int n : new int[] {1, 5, 16}) {
            copied(due, false, n, n);
            copied(due, true, n, n);
        }
    }

    @Says("to the same place of a LOG of floats")
    static void p15_morePlacesThereKeepWhatTheyHold(Due due) {
        for (boolean back : new boolean[] {false, true}) {
            copied(due, back, 1, 2);
            copied(due, back, 3, 16);
            copied(due, back, 15, 16);
        }
    }

    @Says({"until there is no such place there: how many came; counted as PLACE if not all did."})
    static void p15_fewerPlacesThereAreFilled(Due due) {
        for (boolean back : new boolean[] {false, true}) {
            copied(due, back, 2, 1);
            copied(due, back, 16, 3);
            copied(due, back, 16, 15);
        }
    }

    @Says("counted as PLACE if not all did.")
    static void p15_noPlaceThereAtAll(Due due) {
        copied(due, false, 1, 0);
        copied(due, true, 1, 0);
        copied(due, false, 16, 0);
        copied(due, true, 16, 0);
        due.failsAnswering("copy(4, 1, false)", 0, 2, x -> { }, x -> x.copy(4, 1, false));
        due.failsAnswering("copy(5, 0, true)", 0, 2, x -> { }, x -> x.copy(5, 0, true));
    }

    @Says("how many came;")
    static void p15_noPlaceFromWhichToCome(Due due) {
        copied(due, false, 0, 0);
        copied(due, true, 0, 0);
        copied(due, false, 0, 3);
        copied(due, true, 0, 3);
    }

    @Says("to the same place of a LOG of floats")
    static void p15_everyPairOfLogs(Due due) {
        for (int doubles = 4; doubles < 8; doubles++) {
            for (int floats = 0; floats < 4; floats++) {
                RopeDrums x = new RopeDrums();
                fill(x, doubles, 2, 10);
                x.log(floats, 2);
                due.is("copy", x.copy(doubles, floats, false), 2);
                due.is("there", x.whole(floats, 1), 11);
                fill(x, floats, 2, 20);
                due.is("copy back", x.copy(doubles, floats, true), 2);
                due.is("there", x.whole(doubles, 1), 21);
            }
        }
    }

    @Says("UNKNOWN: doubles is not 4 .. 7,")
    static void p15_unknownDoubles(Due due) {
        for (int log : new int[] {3, 0, -1, 8, Integer.MIN_VALUE, Integer.MAX_VALUE}) {
            due.refused("copy(" + log + ", 0, false)", RopeDrums.UNKNOWN, x -> x.copy(log, 0, false));
            due.refused("copy(" + log + ", 0, true)", RopeDrums.UNKNOWN, x -> x.copy(log, 0, true));
        }
    }

    @Says("floats not 0 .. 3.")
    static void p15_unknownFloats(Due due) {
        for (int log : new int[] {4, 7, -1, 8, Integer.MIN_VALUE, Integer.MAX_VALUE}) {
            due.refused("copy(4, " + log + ", false)", RopeDrums.UNKNOWN, x -> x.copy(4, log, false));
            due.refused("copy(4, " + log + ", true)", RopeDrums.UNKNOWN, x -> x.copy(4, log, true));
        }
    }

    @Says("UNKNOWN: doubles is not 4 .. 7, floats not 0 .. 3.")
    static void p15_theTwoMustNotChangePlaces(Due due) {
        due.refused("copy(0, 4, false)", RopeDrums.UNKNOWN, x -> x.copy(0, 4, false));
        due.refused("copy(0, 4, true)", RopeDrums.UNKNOWN, x -> x.copy(0, 4, true));
    }

    @Says("REFUSALS are not counted, and come ahead of FAILURES:")
    static void p15_unknownIsToldAheadOfMissingAndPlace(Due due) {
        due.refused("copy(7, 4, false)", RopeDrums.UNKNOWN, x -> x.copy(7, 4, false));
        due.refused("copy(3, 3, true)", RopeDrums.UNKNOWN, x -> x.copy(3, 3, true));
        due.refused("copy(8, 1, true)", RopeDrums.UNKNOWN, x -> x.copy(8, 1, true));
    }

    @Says("MISSING: that from which they come;")
    static void p15_missingFromWhichTheyCome(Due due) {
        due.fails("copy(7, 0, false)", 1, x -> x.copy(7, 0, false));
        due.fails("copy(4, 3, true)", 1, x -> x.copy(4, 3, true));
        due.fails("to one without places", 1, x -> x.copy(7, 1, false));
        due.fails("to one without places, back", 1, x -> x.copy(5, 3, true));
    }

    @Says("MISSING: that from which they come;")
    static void p15_bothMissing(Due due) {
        due.fails("copy(7, 3, false)", 1, x -> x.copy(7, 3, false));
        due.fails("copy(7, 3, true)", 1, x -> x.copy(7, 3, true));
    }

    @Says("then, if that has places, the other one.")
    static void p15_missingToWhichTheyCome(Due due) {
        due.fails("copy(4, 3, false)", 1, x -> x.copy(4, 3, false));
        due.fails("copy(7, 0, true)", 1, x -> x.copy(7, 0, true));
        due.fails("of one place", 1, x -> x.log(5, 1), x -> x.copy(5, 3, false));
    }

    @Says("then, if that has places, the other one.")
    static void p15_withoutPlacesTheOtherMayBeMissing(Due due) {
        for (boolean back : new boolean[] {false, true}) {
            RopeDrums x = new RopeDrums();
            x.log(back ? 0 : 4, 0);
            x.at(0, 0);
            due.is("copy, back = " + back, x.copy(4, 0, back), 0);
            due.is("failed", x.failed(), 0);
            due.is("count of MISSING", x.count(1), 1);
            due.is("count of PLACE", x.count(2), 0);
        }
    }
}
