/** Collects the answers that are not the ones that are due. */
final class Due {
    private int asked = 0;
    private int wrong = 0;

    void is(String call, long got, long want) {
        asked++;
        if (got != want) {
            wrong++;
            System.out.println(call + " answered " + got + ", due is " + want);
        }
    }

    void isTrue(String claim, boolean holds) {
        is(claim, holds ? 1 : 0, 1);
    }

    boolean allWell() {
        return wrong == 0;
    }

    void end() {
        System.out.println(asked + " asked, " + wrong + " wrong");
        if (wrong != 0 || asked == 0) {
            System.exit(1);
        }
    }

    static long f(float x) {
        return Float.floatToRawIntBits(x);
    }

    static long d(double x) {
        return Double.doubleToRawLongBits(x);
    }
}
