/** Promise 11: log. */
public final class Promise11Test {
    public static void main(String[] args) {
        Promises.run(Promise11Test.class);
    }

    private static void rowOf(Due due, RopeDrums x, int log, int n) {
        for (int i = 0; i < n; i++) {
            due.is("place " + i + " of log " + log, x.read(log, i, 0), log < 4 ? 2 : 3);
            due.is("it is 0.0", x.bits(0), 0);
        }
        due.is("place " + n + " of log " + log, x.read(log, n, 0), -12);
    }

    private static void fill(RopeDrums x, int log, int n) {
        x.set(1, 3, Due.d(-1.5));
        for (int i = 0; i < n; i++) {
            x.write(log, i, 1);
        }
    }

    @Says("A LOG has a new row of n places, all 0.0")
    static void p11_newRowOfEveryLength(Due due) {
        for (int n = 0; n <= 16; n++) {
            RopeDrums x = new RopeDrums();
            for (int log = 0; log < 8; log++) {
                due.is("log(" + log + ", " + n + ")", x.log(log, n), 1);
                rowOf(due, x, log, n);
            }
        }
    }

    @Says("A LOG has a new row of n places, all 0.0")
    static void p11_whatStoodThereIsGone(Due due) {
        for (int log = 0; log < 8; log++) {
            for (int n : new int[] {16, 5, 4, 1, 0}) {
                RopeDrums x = new RopeDrums();
                x.log(log, 16);
                fill(x, log, 16);
                due.is("as long or shorter", x.log(log, n), 1);
                rowOf(due, x, log, n);
                due.is("longer again", x.log(log, 16), 1);
                rowOf(due, x, log, 16);
            }
        }
    }

    @Says("A LOG has a new row of n places,")
    static void p11_otherLogsKeepTheirRows(Due due) {
        for (int log = 0; log < 8; log++) {
            RopeDrums x = new RopeDrums();
            int other = (log + 1) % 8;
            x.log(log, 2);
            x.log(other, 2);
            fill(x, log, 2);
            x.log(other, 3);
            due.is("the whole of another", x.whole(log, 1), -1);
        }
    }

    @Says("n places,")
    static void p11_rowOf0PlacesIsNotMissing(Due due) {
        RopeDrums x = new RopeDrums();
        for (int log = 0; log < 8; log++) {
            due.is("log(" + log + ", 0)", x.log(log, 0), 1);
            due.is("read", x.read(log, 0, 0), -12);
        }
    }

    @Says("(n = NONE: it is MISSING): 1.")
    static void p11_noneMakesItMissing(Due due) {
        RopeDrums x = new RopeDrums();
        for (int log = 0; log < 8; log++) {
            due.is("a missing one", x.log(log, RopeDrums.NONE), 1);
            due.is("read", x.read(log, 0, 0), -11);
            x.log(log, 2);
            fill(x, log, 2);
            due.is("one with places", x.log(log, RopeDrums.NONE), 1);
            due.is("read", x.read(log, 0, 0), -11);
            due.is("a row again", x.log(log, 2), 1);
            rowOf(due, x, log, 2);
        }
    }

    @Says("UNKNOWN;")
    static void p11_unknownLog(Due due) {
        for (int log : Due.beyond(8)) {
            due.refused("log(" + log + ", 1)", RopeDrums.UNKNOWN, x -> x.log(log, 1));
            due.refused("log(" + log + ", NONE)", RopeDrums.UNKNOWN, x -> x.log(log, RopeDrums.NONE));
        }
    }

    @Says("OUTSIDE: n is not NONE .. 16.")
    static void p11_lengthOutside(Due due) {
        for (int n : new int[] {-2, 17, Integer.MIN_VALUE, Integer.MAX_VALUE}) {
            due.refused("log(0, " + n + ")", RopeDrums.OUTSIDE, x -> x.log(0, n));
            due.refused("log(4, " + n + ")", RopeDrums.OUTSIDE, x -> x.log(4, n));
            due.refused("log(7, " + n + ")", RopeDrums.OUTSIDE, x -> x.log(7, n));
        }
    }

    @Says("of several the first that the call tells.")
    static void p11_unknownIsToldAheadOfOutside(Due due) {
        for (int log : Due.beyond(8)) {
            due.refused("log(" + log + ", 17)", RopeDrums.UNKNOWN, x -> x.log(log, 17));
        }
    }
}
