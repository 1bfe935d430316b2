/** Lines that the tests of boundary cases start from. */
final class Lines {
    private Lines() {
    }

    /**
     * A line in the midst of its run, in the minute 10, with room for more. Bus 0 stands at 3, bus 1 is held at 1 with
     * no minute left, bus 2 goes from 9. Passenger 0 waits at 2 with a transfer, 1 has arrived at 3 in the minute 9,
     * 2 rides in bus 0, and 3 waits at 6.
     */
    static BusStage busy() {
        BusStage x = new BusStage();
        x.set(4, 3, 7);
        x.hold(6);
        x.start(0, 20);
        x.start(0, 2);
        x.start(6, 3);
        x.queue(1, 2);
        x.queue(1, 3);
        x.queue(1, 8);
        x.queue(6, 5);
        x.go(10);
        x.change(0, 6);
        return x;
    }

    /** Six buses and fifty passengers: all that a line may have. Some wait, some ride, some have arrived. */
    static BusStage full() {
        BusStage x = withBuses(6);
        queueMany(x, 50, 1, 2);
        x.go(20);
        return x;
    }

    /** Buses with five seats, at the stops 0, 1, 2 .. */
    static BusStage withBuses(int many) {
        BusStage x = new BusStage();
        for (int number = 0; number < many; number++) {
            x.start(number, 5);
        }
        return x;
    }

    /** Passengers who wait at 1 and want to 2, and no bus. */
    static BusStage withPassengers(int many) {
        BusStage x = new BusStage();
        queueMany(x, many, 1, 2);
        return x;
    }

    static void queueMany(BusStage x, int many, int from, int to) {
        for (int number = 0; number < many; number++) {
            x.queue(from, to);
        }
    }
}
