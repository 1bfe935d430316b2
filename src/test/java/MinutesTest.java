/** Promises 8, 10, 11 and 12: what is there, and how minutes go. */
public final class MinutesTest {
    private static final Check CHECK = new Check();

    public static void main(String[] args) {
        aBusGoesRound();
        buses();
        stops();
        counts();
        bunchedPairs();
        goTellsArrivals();
        CHECK.finish();
    }

    private static void aBusGoesRound() {
        BusStage x = new BusStage();
        x.set(4, 1, 2);
        x.set(9, 5, 4);
        x.start(0, 20);
        int minute = 0;
        for (int stop = 0; stop < 10; stop++) {
            x.go(1);
            CHECK.same("goes from " + stop, x.bus(0, 1), 1);
            CHECK.same("from " + stop, x.bus(0, 0), stop);
            CHECK.same("minutes to go from " + stop, x.bus(0, 2), x.stop(stop, 0));
            CHECK.same("left " + stop, x.stop(stop, 4), minute);
            x.go(x.stop(stop, 0));
            CHECK.same("stands behind " + stop, x.bus(0, 1), 0);
            CHECK.same("at the stop behind " + stop, x.bus(0, 0), (stop + 1) % 10);
            CHECK.same("for a minute", x.bus(0, 2), 1);
            minute += 1 + x.stop(stop, 0);
            CHECK.same("the minute", x.count(0), minute);
        }
    }

    private static void buses() {
        BusStage x = new BusStage();
        x.start(0, 7);
        x.queue(1, 2);
        x.queue(1, 4);
        x.go(3);
        int[] due = {1, 0, 2, 7, 2, 3 + 4};
        for (int what = 0; what < 6; what++) {
            CHECK.same("bus " + what, x.bus(0, what), due[what]);
        }
    }

    private static void stops() {
        BusStage x = new BusStage();
        x.set(7, 6, 8);
        x.queue(7, 1);
        x.queue(7, 2);
        x.queue(1, 7);
        x.start(7, 3);
        x.start(7, 3);
        x.start(6, 3);
        int[] due = {6, 8, 2, 2, -1};
        for (int what = 0; what < 5; what++) {
            CHECK.same("stop " + what, x.stop(7, what), due[what]);
        }
        x.go(1);
        CHECK.same("none stands", x.stop(7, 3), 0);
        CHECK.same("left in 0", x.stop(7, 4), 0);
        x.go(2);
        CHECK.same("bus 2 came", x.stop(7, 3), 1);
        CHECK.same("none waits", x.stop(7, 2), 0);
    }

    private static void counts() {
        BusStage x = new BusStage();
        x.hold(3);
        x.start(0, 20);
        x.start(0, 20);
        x.queue(1, 2);
        x.queue(1, 4);
        x.queue(7, 8);
        x.go(7);
        // Bus 0 took both in the minute 2, stood until 4, and came to stop 2 in 6; bus 1 was held at stop 0 until 3.
        int[] due = {7, 3, 2, 3, 1, 1, 1, 3 + 4, 2 + 2 + 7, 0};
        for (int what = 0; what < 10; what++) {
            CHECK.same("count " + what, x.count(what), due[what]);
        }
    }

    private static void bunchedPairs() {
        BusStage x = new BusStage();
        for (int number = 0; number < 4; number++) {
            x.start(2, 5);
        }
        x.start(3, 5);
        CHECK.same("four stand: six pairs", x.count(9), 6);
        x.hold(9);
        x.go(1);
        CHECK.same("one goes from there: three pairs", x.count(9), 3);
        x.hold(0);
        x.go(1);
        CHECK.same("four go from there: six pairs", x.count(9), 6);
        x.go(1);
        CHECK.same("one stands at 3, one at 4, three go from 2", x.count(9), 3);
        BusStage y = new BusStage();
        y.start(2, 5);
        y.go(1);
        y.start(2, 5);
        CHECK.same("one stands, one goes from there", y.count(9), 0);
    }

    private static void goTellsArrivals() {
        BusStage x = new BusStage();
        x.start(0, 20);
        x.queue(1, 2);
        x.queue(1, 3);
        CHECK.same("both in 120 minutes", x.go(120), 2);
        CHECK.same("the minute", x.count(0), 120);
        CHECK.same("none more", x.go(120), 0);
        x.change(0, 5);
        CHECK.same("one again", x.go(60), 1);
        CHECK.same("minutes add up", x.count(0), 300);
    }
}
