import java.util.ArrayList;
import java.util.List;

/** Many mixed runs: what is foreseen is what then happens, and what is told fits together. */
public final class RunsTest {
    private static final Check CHECK = new Check();
    private static final int RUNS = 150;
    private static final int CALLS = 50;

    private static long seed = 1;

    public static void main(String[] args) {
        for (int run = 0; run < RUNS; run++) {
            play(run);
        }
        CHECK.finish();
    }

    private static int below(int bound) {
        seed = seed * 6364136223846793005L + 1442695040888963407L;
        return (int) ((seed >>> 33) % bound);
    }

    /** Each look at the line takes an object of its own, so that none has more than 512 calls. */
    private static void play(int run) {
        List<int[]> calls = new ArrayList<>();
        for (int i = 0; i < CALLS; i++) {
            calls.add(new int[] {below(8), below(12) - 1, below(23) - 1, below(12) - 1});
            if (i % 10 == 9) {
                String when = "run " + run + ", call " + i + ": ";
                toldFitsTogether(when, replay(calls));
                BusStage x = replay(calls);
                CHECK.same(when + "digest", x.digest(), ForesightTest.digestByHand(x));
                foreseenIsWhatHappens(when, replay(calls), calls);
            }
        }
    }

    /** A refused call is a part of the run too. */
    private static void make(BusStage x, int[] call) {
        try {
            switch (call[0]) {
                case 0:
                    x.set(call[1], call[2], call[3]);
                    break;
                case 1:
                    x.hold(call[1]);
                    break;
                case 2:
                    x.start(call[1], call[2]);
                    break;
                case 3:
                case 4:
                case 5:
                    x.queue(call[1], call[3]);
                    break;
                case 6:
                    for (int passenger = 0; passenger < 4; passenger++) {
                        changeIfArrived(x, passenger, call[1]);
                    }
                    break;
                default:
                    x.go(call[2]);
            }
        } catch (IndexOutOfBoundsException | IllegalArgumentException | IllegalStateException refused) {
            return;
        }
    }

    private static void changeIfArrived(BusStage x, int passenger, int to) {
        if (passenger < x.count(3) && x.passenger(passenger, 0) == 2) {
            x.change(passenger, to);
        }
    }

    private static BusStage replay(List<int[]> calls) {
        BusStage x = new BusStage();
        for (int[] call : calls) {
            make(x, call);
        }
        return x;
    }

    private static void toldFitsTogether(String when, BusStage x) {
        int passengers = x.count(3);
        int[] inState = new int[3];
        int paid = 0;
        int waited = 0;
        int[] riders = new int[6];
        for (int passenger = 0; passenger < passengers; passenger++) {
            inState[x.passenger(passenger, 0)]++;
            paid += x.passenger(passenger, 4);
            waited += x.passenger(passenger, 5);
            int bus = x.passenger(passenger, 3);
            CHECK.holds(when + "a bus for those who ride alone", (bus >= 0) == (x.passenger(passenger, 0) == 1));
            if (bus >= 0) {
                riders[bus]++;
            }
        }
        for (int state = 0; state < 3; state++) {
            CHECK.same(when + "passengers in state " + state, x.count(4 + state), inState[state]);
        }
        CHECK.same(when + "paid", x.count(7), paid);
        CHECK.same(when + "waited", x.count(8), waited);
        CHECK.same(when + "mean", x.mean(), passengers == 0 ? 0.0 : (double) waited / passengers);
        int takings = 0;
        for (int bus = 0; bus < x.count(2); bus++) {
            CHECK.same(when + "riders", x.bus(bus, 4), riders[bus]);
            CHECK.holds(when + "as long as there are seats", x.bus(bus, 4) <= x.bus(bus, 3));
            takings += x.bus(bus, 5);
        }
        CHECK.same(when + "paid in buses", takings, paid);
    }

    private static void foreseenIsWhatHappens(String when, BusStage x, List<int[]> calls) {
        int minutes = 1 + below(120);
        long before = x.digest();
        BusStage later = replay(calls);
        CHECK.same(when + "a second object does the same", later.digest(), before);
        CHECK.same(when + "arrivals", later.go(minutes), x.foresee(minutes, 0));
        CHECK.same(when + "paid from now on", later.count(7) - x.count(7), x.foresee(minutes, 1));
        CHECK.same(when + "waited from now on", later.count(8) - x.count(8), x.foresee(minutes, 2));
        CHECK.same(when + "bunched then", later.count(9), x.foresee(minutes, 3));
        CHECK.same(when + "advise", x.advise(minutes), bestHold(calls, minutes));
        if (x.count(3) > 0) {
            int passenger = below(x.count(3));
            CHECK.same(when + "arrives", x.arrives(passenger), minutesTillArrival(calls, passenger));
        }
        CHECK.same(when + "nothing is changed", x.digest(), before);
    }

    private static int bestHold(List<int[]> calls, int minutes) {
        int best = 0;
        int fewest = Integer.MAX_VALUE;
        for (int hold = 0; hold <= 15; hold++) {
            BusStage tried = replay(calls);
            tried.hold(hold);
            tried.go(minutes);
            if (tried.count(8) < fewest) {
                fewest = tried.count(8);
                best = hold;
            }
        }
        return best;
    }

    private static int minutesTillArrival(List<int[]> calls, int passenger) {
        BusStage tried = replay(calls);
        int now = tried.count(0);
        if (tried.passenger(passenger, 0) == 2) {
            return 0;
        }
        tried.go(120);
        tried.go(80);
        return tried.passenger(passenger, 0) == 2 ? tried.passenger(passenger, 6) + 1 - now : -1;
    }
}
