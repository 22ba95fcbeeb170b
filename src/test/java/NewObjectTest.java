/** Promise 1: a new object has all as told at first. */
public final class NewObjectTest {
    public static void main(String[] args) {
        Due due = new Due();
        RopeDrums used = new RopeDrums();
        useUp(used);
        RopeDrums x = new RopeDrums();
        due.is("failed", x.failed(), 0);
        for (int what = 0; what <= 5; what++) {
            due.is("count " + what, x.count(what), 0);
        }
        for (int meter = 0; meter < 10; meter++) {
            due.is("lane " + meter, x.lane(meter), 0);
            due.is("bits " + meter, x.bits(meter), 0);
        }
        for (int drum = 0; drum < 6; drum++) {
            due.is("around " + drum, x.told(drum, 0), Due.d(1.0));
            due.is("at " + drum, x.told(drum, 1), Due.d(0.0));
            due.is("rope " + drum, x.told(drum, 2), Due.d(0.0));
            due.is("turns " + drum, x.told(drum, 3), 0);
        }
        for (int log = 0; log < 8; log++) {
            due.is("read " + log, x.read(log, 0, 0), -11);
        }
        for (int rack = 0; rack < 5; rack++) {
            due.is("at " + rack, x.at(rack, 0), -11);
        }
        for (int brake = 0; brake < 4; brake++) {
            due.is("slow " + brake, x.slow(brake, 0), -11);
        }
        due.is("put of no spool", x.put(0, 0, 0), RopeDrums.UNKNOWN);
        due.is("count 1", x.count(1), 17);
        due.is("NONE", RopeDrums.NONE, -1);
        due.is("UNKNOWN", RopeDrums.UNKNOWN, -1001);
        due.is("OUTSIDE", RopeDrums.OUTSIDE, -1002);
        due.is("FULL", RopeDrums.FULL, -1003);
        due.end();
    }

    /** What one object is told must not reach another. */
    private static void useUp(RopeDrums x) {
        for (int i = 0; i < 10; i++) {
            x.set(i, 3, Due.d(4.5));
            x.drum(i, Due.d(2.0));
            x.wind(i, 0);
            x.log(i, 3);
            x.spool(5, true);
            x.rack(i, true, 3);
            x.brake(i, 0, Due.d(2.0));
            x.read(0, 9, 0);
        }
    }
}
