/** Promises 1 to 4 and 7: a new object, set, hold, start, fare. */
public final class LineTest {
    private static final Check CHECK = new Check();

    public static void main(String[] args) {
        newObject();
        setTellsBeforeAndCounts();
        goingBusesGoOnAsTheyAre();
        holdTellsBefore();
        holdKeepsBusesApart();
        holdCountsForEachStopByItself();
        startPutsBuses();
        fareCountsSteps();
        CHECK.finish();
    }

    private static void newObject() {
        BusStage x = new BusStage();
        for (int what = 0; what < 10; what++) {
            CHECK.same("new: count " + what, x.count(what), 0);
        }
        for (int stop = 0; stop < 10; stop++) {
            int[] due = {2, stop / 2, 0, 0, -1};
            for (int what = 0; what < 5; what++) {
                CHECK.same("new: stop " + stop + " " + what, x.stop(stop, what), due[what]);
            }
        }
        BusStage y = new BusStage();
        y.set(0, 9, 9);
        y.start(0, 1);
        CHECK.same("objects do not share a line", x.stop(0, 0), 2);
        CHECK.same("objects do not share buses", x.count(2), 0);
    }

    private static void setTellsBeforeAndCounts() {
        BusStage x = new BusStage();
        CHECK.same("set(9)", x.set(9, 1, 0), 24);
        CHECK.same("set(9) again", x.set(9, 9, 9), 10);
        CHECK.same("set(9) a third time", x.set(9, 3, 7), 99);
        CHECK.same("minutes of 9", x.stop(9, 0), 3);
        CHECK.same("stage of 9", x.stop(9, 1), 7);
        CHECK.same("stop 8 is as it was", x.set(8, 2, 4), 24);
        CHECK.same("set(0)", x.set(0, 9, 9), 20);
    }

    private static void goingBusesGoOnAsTheyAre() {
        BusStage x = new BusStage();
        x.start(0, 20);
        x.go(1);
        x.set(0, 9, 0);
        CHECK.same("a bus that goes keeps its minutes", x.bus(0, 2), 2);
        x.go(2);
        CHECK.same("it comes as it would have", x.bus(0, 0), 1);
        CHECK.same("it stands there", x.bus(0, 1), 0);
        x.start(0, 20);
        x.go(1);
        CHECK.same("a later one takes the new minutes", x.bus(1, 2), 9);
    }

    private static void holdTellsBefore() {
        BusStage x = new BusStage();
        CHECK.same("hold(15)", x.hold(15), 0);
        CHECK.same("hold(7)", x.hold(7), 15);
        CHECK.same("the hold is told", x.count(1), 7);
        CHECK.same("hold(0)", x.hold(0), 7);
    }

    private static void holdKeepsBusesApart() {
        BusStage x = new BusStage();
        x.hold(5);
        x.start(0, 1);
        x.start(0, 1);
        x.go(1);
        CHECK.same("the first one goes", x.bus(0, 1), 1);
        CHECK.same("the second one is held", x.bus(1, 1), 0);
        CHECK.same("the second one has none left", x.bus(1, 2), 0);
        x.go(4);
        CHECK.same("it is held in the minute 4", x.bus(1, 1), 0);
        CHECK.same("none left is not less than none", x.bus(1, 2), 0);
        CHECK.same("the latest left in 0", x.stop(0, 4), 0);
        x.go(1);
        CHECK.same("it goes in the minute 5", x.bus(1, 1), 1);
        CHECK.same("it has all minutes to go", x.bus(1, 2), 2);
        CHECK.same("the latest left in 5", x.stop(0, 4), 5);
        x.start(0, 1);
        x.go(1);
        CHECK.same("the third one is held", x.bus(2, 1), 0);
        x.hold(0);
        x.go(1);
        CHECK.same("a hold of 0 lets it go", x.bus(2, 1), 1);
    }

    private static void holdCountsForEachStopByItself() {
        BusStage x = new BusStage();
        x.hold(15);
        x.start(0, 1);
        x.go(4);
        CHECK.same("no bus ever left stop 1", x.stop(1, 4), 3);
        CHECK.same("so it goes on", x.bus(0, 1), 1);
    }

    private static void startPutsBuses() {
        BusStage x = new BusStage();
        CHECK.same("start(9, 20)", x.start(9, 20), 0);
        CHECK.same("start(3, 1)", x.start(3, 1), 1);
        int[] due = {3, 0, 1, 1, 0, 0};
        for (int what = 0; what < 6; what++) {
            CHECK.same("started: bus 1 " + what, x.bus(1, what), due[what]);
        }
        CHECK.same("seats of bus 0", x.bus(0, 3), 20);
        CHECK.same("buses", x.count(2), 2);
        CHECK.same("buses at 9", x.stop(9, 3), 1);
        x.go(1);
        CHECK.same("its minute is over", x.bus(1, 1), 1);
        CHECK.same("no bus at 9", x.stop(9, 3), 0);
        x.go(2);
        CHECK.same("behind 9 comes 0", x.bus(0, 0), 0);
    }

    private static void fareCountsSteps() {
        BusStage x = new BusStage();
        CHECK.same("fare(0, 1)", x.fare(0, 1), 2);
        CHECK.same("fare(1, 2)", x.fare(1, 2), 3);
        CHECK.same("fare(1, 0), nearly round", x.fare(1, 0), 7);
        CHECK.same("fare(0, 9)", x.fare(0, 9), 6);
        CHECK.same("fare(9, 0), behind 9", x.fare(9, 0), 3);
        CHECK.same("fare(8, 3), round", x.fare(8, 3), 4);
        for (int stop = 0; stop < 10; stop++) {
            CHECK.same("fare from a stop to itself", x.fare(stop, stop), 0);
        }
        x.set(5, 2, 1);
        CHECK.same("each change counts, not each stage", x.fare(3, 6), 5);
        CHECK.same("a fare changes nothing", x.count(7), 0);
    }
}
