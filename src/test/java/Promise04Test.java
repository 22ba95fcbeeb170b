/** Promise 4: lane. */
public final class Promise04Test {
    public static void main(String[] args) {
        Promises.run(Promise04Test.class);
    }

    @Says("The LANE of what a METER holds.")
    static void p04_laneOfEveryMeter(Due due) {
        RopeDrums x = new RopeDrums();
        for (int meter = 0; meter < 10; meter++) {
            x.set(meter, meter % 4, 0);
        }
        for (int meter = 0; meter < 10; meter++) {
            due.is("lane(" + meter + ")", x.lane(meter), meter % 4);
        }
    }

    @Says("The LANE of what a METER holds.")
    static void p04_laneIsThatOfTheLatest(Due due) {
        RopeDrums x = new RopeDrums();
        x.set(0, 3, 0);
        due.is("set", x.lane(0), 3);
        x.turn(0, 1);
        due.is("turned", x.lane(0), 1);
        x.set(1, 2, 0);
        x.reckon(0, 0, 1, 0);
        due.is("reckoned", x.lane(0), 2);
        x.log(4, 1);
        x.read(4, 0, 0);
        due.is("read", x.lane(0), 3);
    }

    @Says("UNKNOWN.")
    static void p04_unknownMeter(Due due) {
        for (int meter : Due.beyond(10)) {
            due.refused("lane(" + meter + ")", RopeDrums.UNKNOWN, x -> x.lane(meter));
        }
    }
}
