/** Promises 5, 6, 9 and how passengers get on and off in a minute. */
public final class PassengersTest {
    private static final Check CHECK = new Check();

    public static void main(String[] args) {
        queuePutsPassengers();
        fiftyQueueAndTwentyGetOn();
        aPassengersWay();
        lowerNumbersGetOnFirst();
        ridersGetOffAhead();
        lowerBusesTakeFirst();
        aStandingBusTakesNobody();
        aFareIsThatOfTheMinute();
        transferAt(28, true);
        transferAt(29, false);
        CHECK.finish();
    }

    private static void told(String when, BusStage x, int passenger, int... due) {
        for (int what = 0; what < 7; what++) {
            CHECK.same(when + ": passenger " + passenger + " " + what, x.passenger(passenger, what), due[what]);
        }
    }

    private static void queuePutsPassengers() {
        BusStage x = new BusStage();
        CHECK.same("queue(4, 5)", x.queue(4, 5), 0);
        CHECK.same("queue(9, 0)", x.queue(9, 0), 1);
        told("queued", x, 1, 0, 9, 0, -1, 0, 0, -1);
        CHECK.same("they wait", x.count(4), 2);
        CHECK.same("one waits at 9", x.stop(9, 2), 1);
        CHECK.same("none waits at 0", x.stop(0, 2), 0);
        x.go(7);
        told("they waited", x, 1, 0, 9, 0, -1, 0, 7, -1);
    }

    private static void fiftyQueueAndTwentyGetOn() {
        BusStage x = new BusStage();
        for (int number = 0; number < 50; number++) {
            CHECK.same("queue", x.queue(0, 1), number);
        }
        CHECK.same("passengers", x.count(3), 50);
        x.start(9, 20);
        x.go(3);
        CHECK.same("20 of 50 ride", x.count(5), 20);
        CHECK.same("30 of 50 wait", x.stop(0, 2), 30);
        CHECK.same("20 got on: 11 minutes", x.bus(0, 2), 11);
    }

    private static void aPassengersWay() {
        BusStage x = new BusStage();
        x.start(0, 20);
        x.queue(1, 3);
        x.go(2);
        told("waits", x, 0, 0, 1, 3, -1, 0, 2, -1);
        x.go(1);
        told("rides", x, 0, 1, 1, 3, 0, 3, 2, -1);
        CHECK.same("riders", x.bus(0, 4), 1);
        CHECK.same("paid in the bus", x.bus(0, 5), 3);
        x.go(5);
        told("still rides", x, 0, 1, 1, 3, 0, 3, 2, -1);
        CHECK.same("arrives in the minute 8", x.go(1), 1);
        told("has arrived", x, 0, 2, 3, 3, -1, 3, 2, 8);
        CHECK.same("no riders", x.bus(0, 4), 0);
        CHECK.same("what was paid stays", x.bus(0, 5), 3);
        x.go(10);
        told("stays", x, 0, 2, 3, 3, -1, 3, 2, 8);
    }

    private static void lowerNumbersGetOnFirst() {
        BusStage x = new BusStage();
        x.start(0, 2);
        x.queue(1, 5);
        x.queue(1, 6);
        x.queue(1, 2);
        x.go(3);
        CHECK.same("0 rides", x.passenger(0, 0), 1);
        CHECK.same("1 rides", x.passenger(1, 0), 1);
        CHECK.same("2 waits", x.passenger(2, 0), 0);
        CHECK.same("2 waited this minute too", x.passenger(2, 5), 3);
    }

    private static void ridersGetOffAhead() {
        BusStage x = new BusStage();
        x.start(0, 1);
        x.queue(2, 4);
        x.queue(1, 2);
        x.go(6);
        CHECK.same("1 got off", x.passenger(1, 0), 2);
        CHECK.same("0 has the seat", x.passenger(0, 0), 1);
        CHECK.same("one rider", x.bus(0, 4), 1);
        CHECK.same("a rider gets off at the own stop only", x.passenger(0, 1), 2);
    }

    private static void lowerBusesTakeFirst() {
        BusStage x = new BusStage();
        x.start(0, 2);
        x.start(0, 5);
        for (int number = 0; number < 3; number++) {
            x.queue(1, 5);
        }
        x.go(3);
        CHECK.same("bus 0 is full", x.bus(0, 4), 2);
        CHECK.same("bus 1 takes the rest", x.passenger(2, 3), 1);
        CHECK.same("two got on: 2 minutes", x.bus(0, 2), 2);
        CHECK.same("one got on: 1 minute", x.bus(1, 2), 1);
    }

    private static void aStandingBusTakesNobody() {
        BusStage x = new BusStage();
        x.start(1, 5);
        x.queue(1, 2);
        x.go(1);
        CHECK.same("only one that comes takes", x.passenger(0, 0), 0);
    }

    private static void aFareIsThatOfTheMinute() {
        BusStage x = new BusStage();
        x.start(0, 5);
        x.queue(1, 2);
        x.set(1, 2, 1);
        x.go(3);
        CHECK.same("paid as the stages are now", x.passenger(0, 4), 2);
        x.set(1, 2, 0);
        x.go(3);
        CHECK.same("and once", x.passenger(0, 4), 2);
    }

    /** The passenger arrives at 3 in the minute 8; the bus comes back to 3 in the minute 38. */
    private static void transferAt(int minute, boolean hasIt) {
        BusStage x = new BusStage();
        x.start(0, 5);
        x.queue(1, 3);
        x.go(minute);
        CHECK.holds("a transfer in the minute " + minute + ": " + hasIt, x.change(0, 5) == hasIt);
        told("changed", x, 0, 0, 3, 5, -1, 3, 2, 8);
        CHECK.same("waits at 3", x.stop(3, 2), 1);
        x.go(39 - minute);
        told("rides again", x, 0, 1, 3, 5, 0, hasIt ? 4 : 6, 2 + 38 - minute, 8);
        CHECK.same("paid in the bus", x.bus(0, 5), hasIt ? 4 : 6);
        x.go(6);
        told("arrives again", x, 0, 2, 5, 5, -1, hasIt ? 4 : 6, 2 + 38 - minute, 44);
    }
}
