import java.util.List;

/** Collects the answers that are not the ones that are due. */
final class Due {
    /** One call of the face. */
    interface Call {
        long on(RopeDrums x);
    }

    /** What is done ahead of the call that is looked at. */
    interface Before {
        void on(RopeDrums x);
    }

    private int asked = 0;
    private int wrong = 0;

    void is(String call, long got, long want) {
        asked++;
        if (got != want) {
            wrong++;
            System.out.println(call + " answered " + got + ", due is " + want);
        }
    }

    void isTrue(String claim, boolean holds) {
        is(claim, holds ? 1 : 0, 1);
    }

    /** The call is refused by want, on a walk in full use, and nothing whatever changes. */
    void refused(String name, long want, Call call) {
        refused(name, want, x -> { }, call);
    }

    void refused(String name, long want, Before before, Call call) {
        for (int latest = 1; latest <= 2; latest++) {
            RopeDrums x = Walk.used(latest, before);
            is(name, call.on(x), want);
            alike(name, Walk.seen(x), Walk.seen(Walk.used(latest, before)));
        }
    }

    /** The call fails, answers that, counts it, and changes nothing else. */
    void fails(String name, int failure, Call call) {
        fails(name, failure, x -> { }, call);
    }

    void fails(String name, int failure, Before before, Call call) {
        failsAnswering(name, -10 - failure, failure, before, call);
    }

    void failsAnswering(String name, long answer, int failure, Before before, Call call) {
        int other = failure % 5 + 1;
        RopeDrums x = Walk.used(other, before);
        is(name, call.on(x), answer);
        List<String> want = Walk.seen(Walk.used(other, before));
        Walk.expectFailure(want, failure);
        alike(name, Walk.seen(x), want);
    }

    private void alike(String name, List<String> got, List<String> want) {
        is(name + ": how much is seen", got.size(), want.size());
        for (int i = 0; i < Math.min(got.size(), want.size()); i++) {
            isTrue(name + ": then " + got.get(i) + ", due is " + want.get(i), got.get(i).equals(want.get(i)));
        }
    }

    void take(Due other) {
        asked += other.asked;
        wrong += other.wrong;
    }

    boolean hasAsked() {
        return asked > 0;
    }

    boolean allWell() {
        return wrong == 0;
    }

    void end() {
        System.out.println(asked + " asked, " + wrong + " wrong");
        if (wrong != 0 || asked == 0) {
            System.exit(1);
        }
    }

    static long f(float x) {
        return Float.floatToRawIntBits(x);
    }

    static long d(double x) {
        return Double.doubleToRawLongBits(x);
    }

    /** Numbers that name nothing where 0 .. n - 1 name something: both neighbours, and the farthest. */
    static int[] beyond(int n) {
        return new int[] {-1, n, Integer.MIN_VALUE, Integer.MAX_VALUE};
    }
}
