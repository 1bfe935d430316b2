/** Promises 13 to 17: arrives, foresee, advise, mean, digest. */
public final class ForesightTest {
    private static final Check CHECK = new Check();

    public static void main(String[] args) {
        arrivesTellsMinutes();
        foreseeTells();
        foreseeTellsWhatIsNew();
        adviseHoldsWhereItHelps();
        meanDivides();
        digestOfNew();
        digestOrder();
        CHECK.finish();
    }

    private static void arrivesTellsMinutes() {
        BusStage x = new BusStage();
        x.start(0, 20);
        x.queue(1, 3);
        long before = x.digest();
        CHECK.same("one who waits", x.arrives(0), 9);
        CHECK.same("nothing is changed", x.digest(), before);
        x.go(4);
        CHECK.same("one who rides", x.arrives(0), 5);
        x.go(4);
        CHECK.same("next minute", x.arrives(0), 1);
        x.go(1);
        CHECK.same("now", x.arrives(0), 0);
        x.go(20);
        CHECK.same("long ago", x.arrives(0), 0);
    }

    private static void foreseeTells() {
        BusStage x = new BusStage();
        x.start(0, 20);
        x.start(0, 20);
        x.queue(1, 3);
        x.queue(2, 3);
        long before = x.digest();
        CHECK.same("arrivals in 8", x.foresee(8, 0), 0);
        CHECK.same("arrivals in 9", x.foresee(9, 0), 2);
        CHECK.same("paid in 2", x.foresee(2, 1), 0);
        CHECK.same("paid in 3", x.foresee(3, 1), 3);
        CHECK.same("paid in 120", x.foresee(120, 1), 5);
        CHECK.same("waited in 1", x.foresee(1, 2), 2);
        CHECK.same("waited in 120", x.foresee(120, 2), 2 + 5);
        CHECK.same("bunched in 1", x.foresee(1, 3), 1);
        x.hold(15);
        CHECK.same("bunched in 1 with a hold", x.foresee(1, 3), 0);
        x.hold(0);
        CHECK.same("nothing is changed", x.digest(), before);
    }

    private static void foreseeTellsWhatIsNew() {
        BusStage x = new BusStage();
        x.start(0, 20);
        x.queue(1, 2);
        x.queue(1, 4);
        x.queue(7, 8);
        x.go(7);
        CHECK.same("one has arrived", x.count(6), 1);
        CHECK.same("arrivals from now on", x.foresee(120, 0), 2);
        CHECK.same("paid from now on", x.foresee(120, 1), 3 - 1 + 1);
        CHECK.same("waited from now on", x.foresee(2, 2), 2);
    }

    /** A hold seldom helps; here one of 1 lets the others take turns at 3, so that 77 are waited in place of 78. */
    private static void adviseHoldsWhereItHelps() {
        BusStage x = crowdedLine();
        long before = x.digest();
        CHECK.same("waited with a hold of 0", waitedWith(0), 78);
        CHECK.same("waited with a hold of 1", waitedWith(1), 77);
        CHECK.same("waited with a hold of 2", waitedWith(2), 78);
        for (int hold = 3; hold <= 15; hold++) {
            CHECK.holds("more is waited with a hold of " + hold, waitedWith(hold) > 77);
        }
        CHECK.same("advise(60)", x.advise(60), 1);
        CHECK.same("in few minutes it does not help yet", x.advise(14), 0);
        CHECK.same("nothing is changed", x.digest(), before);
        CHECK.same("the hold is as it was", x.count(1), 12);
    }

    private static int waitedWith(int hold) {
        BusStage x = crowdedLine();
        int before = x.count(8);
        x.hold(hold);
        x.go(60);
        return x.count(8) - before;
    }

    private static BusStage crowdedLine() {
        BusStage x = new BusStage();
        x.start(0, 1);
        x.start(8, 17);
        x.start(0, 1);
        x.hold(12);
        int[][] early = {{1, 7}, {1, 4}, {2, 8}, {3, 1}, {3, 0}, {3, 5}};
        for (int[] way : early) {
            x.queue(way[0], way[1]);
        }
        x.go(6);
        int[][] late = {{3, 2}, {4, 7}, {3, 5}, {1, 6}, {3, 2}};
        for (int[] way : late) {
            x.queue(way[0], way[1]);
        }
        return x;
    }

    private static void meanDivides() {
        BusStage x = new BusStage();
        CHECK.same("without passengers", x.mean(), 0.0);
        x.queue(0, 1);
        CHECK.same("nobody waited", x.mean(), 0.0);
        x.go(5);
        CHECK.same("5 / 1", x.mean(), 5.0);
        x.queue(0, 1);
        CHECK.same("5 / 2", x.mean(), 2.5);
        x.queue(0, 1);
        CHECK.same("5 / 3", x.mean(), 5.0 / 3.0);
    }

    private static void digestOfNew() {
        long due = 1039;
        for (int what = 0; what < 10; what++) {
            due = due * 31;
        }
        for (int stop = 0; stop < 10; stop++) {
            int[] told = {2, stop / 2, 0, 0, -1};
            for (int what = 0; what < 5; what++) {
                due = due * 31 + told[what];
            }
        }
        CHECK.same("digest of a new one", new BusStage().digest(), due);
    }

    private static void digestOrder() {
        BusStage x = new BusStage();
        x.hold(2);
        x.start(0, 3);
        x.start(4, 2);
        x.queue(1, 2);
        x.queue(1, 7);
        x.queue(8, 6);
        x.go(5);
        CHECK.same("digest of a line", x.digest(), digestByHand(x));
    }

    static long digestByHand(BusStage x) {
        int buses = x.count(2);
        int passengers = x.count(3);
        long due = 1039;
        for (int what = 0; what < 10; what++) {
            due = due * 31 + x.count(what);
        }
        for (int stop = 0; stop < 10; stop++) {
            for (int what = 0; what < 5; what++) {
                due = due * 31 + x.stop(stop, what);
            }
        }
        for (int bus = 0; bus < buses; bus++) {
            for (int what = 0; what < 6; what++) {
                due = due * 31 + x.bus(bus, what);
            }
        }
        for (int passenger = 0; passenger < passengers; passenger++) {
            for (int what = 0; what < 7; what++) {
                due = due * 31 + x.passenger(passenger, what);
            }
        }
        return due;
    }
}
