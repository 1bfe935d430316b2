import java.math.BigInteger;

/** The boundary cases of what would be: promises 13 to 17, a test for each sentence. */
public final class ForesightEdgesTest {
    private static final Check CHECK = new Check();
    private static final BigInteger TWO_TO_64 = BigInteger.ONE.shiftLeft(64);

    public static void main(String[] args) {
        arrivesTakesTheFirstAndTheLastPassenger();
        arrivesRefusesAPassengerBeyond();
        arrivesIs0IfSoNow();
        arrivesIs1InTheVeryMinute();
        arrivesIsAtMost200();
        arrivesIsMinus1WithoutABus();
        arrivesChangesNothing();
        foreseeTakesTheFewestAndTheMostMinutes();
        foreseeRefusesMinutesBeyond();
        foreseeTakesTheFirstAndTheLastWhat();
        foreseeRefusesAWhatBeyond();
        foreseeNamesTheMinutesFirst();
        foreseeCountsUpToItsLastMinute();
        foreseeCountsFromNowOn();
        foreseeIs0WhereNothingIs();
        foreseeChangesNothing();
        adviseTakesTheFewestAndTheMostMinutes();
        adviseRefusesMinutesBeyond();
        adviseGoesUpTo15();
        adviseGoesNotUpTo16();
        adviseCountsUpToItsLastMinute();
        adviseTakesTheLeastOfSeveral();
        adviseTakesTheLeastOfSeveralAbove0();
        adviseTakesTheLeastOfSeveralFarApart();
        adviseChangesNothing();
        meanIs0WithoutPassengers();
        meanCountsAllPassengers();
        meanIsNotCut();
        meanChangesNothing();
        digestOfANewLine();
        digestOfAFullLine();
        digestWrapsAround();
        digestChangesNothing();
        CHECK.finish();
    }

    private static void arrivesTakesTheFirstAndTheLastPassenger() {
        BusStage x = Lines.withPassengers(49);
        x.queue(8, 9);
        x.start(0, 1);
        CHECK.same("arrives(0)", x.arrives(0), 6);
        x.start(7, 1);
        CHECK.same("arrives(49)", x.arrives(49), 6);
    }

    /** Promise 13: "IndexOutOfBoundsException if there is no such passenger". */
    private static void arrivesRefusesAPassengerBeyond() {
        for (int passenger : new int[] {-1, 4, 49, 50, Integer.MIN_VALUE, Integer.MAX_VALUE}) {
            CHECK.refusesIndex("arrives " + passenger, Lines::busy, x -> x.arrives(passenger));
        }
        CHECK.refusesIndex("of 50, arrives -1", Lines::full, x -> x.arrives(-1));
        CHECK.refusesIndex("of 50, arrives 50", Lines::full, x -> x.arrives(50));
    }

    /** Promise 13: "0 if so now". */
    private static void arrivesIs0IfSoNow() {
        BusStage x = oneWhoArrivesInTheMinute5();
        x.go(6);
        CHECK.same("just now", x.arrives(0), 0);
        x.go(120);
        CHECK.same("long ago", x.arrives(0), 0);
        x.change(0, 5);
        CHECK.holds("waits again", x.arrives(0) > 0);
    }

    /** Promise 13: "Behind how many minutes": at least 1, if not so now. */
    private static void arrivesIs1InTheVeryMinute() {
        BusStage x = oneWhoArrivesInTheMinute5();
        CHECK.same("from the minute 0 on", x.arrives(0), 6);
        x.go(5);
        CHECK.same("in the very minute", x.arrives(0), 1);
    }

    private static BusStage oneWhoArrivesInTheMinute5() {
        BusStage x = new BusStage();
        x.start(0, 5);
        x.queue(1, 2);
        return x;
    }

    /** Promise 13: "at most 200; -1 if not by then". */
    private static void arrivesIsAtMost200() {
        BusStage x = oneWhoArrivesBehind201Minutes();
        CHECK.same("201 minutes are too many", x.arrives(2), -1);
        x.go(1);
        CHECK.same("200 minutes", x.arrives(2), 200);
        x.go(1);
        CHECK.same("199 minutes", x.arrives(2), 199);
        x.go(120);
        x.go(78);
        CHECK.same("so it is: 1 minute", x.arrives(2), 1);
        CHECK.same("and then this one arrives", x.go(1), 1);
    }

    /** With 9 minutes a step the bus comes to its k-th stop in the minute 10 * k - 1; two who get on cost one more. */
    private static BusStage oneWhoArrivesBehind201Minutes() {
        BusStage x = new BusStage();
        for (int stop = 0; stop < 10; stop++) {
            x.set(stop, 9, 0);
        }
        x.start(0, 2);
        x.queue(1, 2);
        x.queue(1, 2);
        x.queue(1, 0);
        return x;
    }

    private static void arrivesIsMinus1WithoutABus() {
        CHECK.same("no bus", Lines.withPassengers(1).arrives(0), -1);
    }

    /** Promise 13: "(nothing is changed)": be the answer 0, in between, or -1. */
    private static void arrivesChangesNothing() {
        for (int number = 0; number < 4; number++) {
            int passenger = number;
            CHECK.changesNothing("arrives " + passenger, Lines::busy, x -> x.arrives(passenger));
        }
        CHECK.changesNothing("arrives with -1", ForesightEdgesTest::oneWhoArrivesBehind201Minutes, x -> x.arrives(2));
        CHECK.changesNothing("arrives of 50", Lines::full, x -> x.arrives(49));
    }

    private static void foreseeTakesTheFewestAndTheMostMinutes() {
        BusStage x = Lines.withPassengers(1);
        CHECK.same("waited in 1", x.foresee(1, 2), 1);
        CHECK.same("waited in 120", x.foresee(120, 2), 120);
    }

    /** Promise 14: "IllegalArgumentException if minutes is not 1 to 120". */
    private static void foreseeRefusesMinutesBeyond() {
        for (int minutes : new int[] {0, 121, -1, Integer.MIN_VALUE, Integer.MAX_VALUE}) {
            CHECK.refusesArgument("foresee minutes " + minutes, Lines::busy, x -> x.foresee(minutes, 2));
        }
    }

    private static void foreseeTakesTheFirstAndTheLastWhat() {
        BusStage x = Lines.withBuses(1);
        x.start(0, 5);
        x.queue(1, 2);
        CHECK.same("what 0", x.foresee(6, 0), 1);
        CHECK.same("what 3", x.foresee(1, 3), 1);
    }

    /** Promise 14: "IndexOutOfBoundsException if what is not 0 to 3". */
    private static void foreseeRefusesAWhatBeyond() {
        for (int what : new int[] {-1, 4, Integer.MIN_VALUE, Integer.MAX_VALUE}) {
            CHECK.refusesIndex("foresee what " + what, Lines::busy, x -> x.foresee(5, what));
        }
    }

    /** "If several exceptions apply, the one that is named first is thrown": here that of the minutes. */
    private static void foreseeNamesTheMinutesFirst() {
        CHECK.refusesArgument("foresee: too few and above", Lines::busy, x -> x.foresee(0, 4));
        CHECK.refusesArgument("foresee: too many and below", Lines::busy, x -> x.foresee(121, -1));
    }

    /** Promise 14: "in them", "then": with the last of the minutes, without the next one. */
    private static void foreseeCountsUpToItsLastMinute() {
        BusStage x = oneWhoArrivesInTheMinute5();
        x.start(1, 5);
        CHECK.same("arrivals in 5", x.foresee(5, 0), 0);
        CHECK.same("arrivals in 6", x.foresee(6, 0), 1);
        CHECK.same("paid in 2", x.foresee(2, 1), 0);
        CHECK.same("paid in 3", x.foresee(3, 1), 3);
        CHECK.same("waited in 1", x.foresee(1, 2), 1);
        CHECK.same("waited in 2", x.foresee(2, 2), 2);
        CHECK.same("waited in 3", x.foresee(3, 2), 2);
        BusStage y = oneHeldAt1UntilTheMinute15();
        CHECK.same("bunched behind 2", y.foresee(2, 3), 0);
        CHECK.same("bunched behind 3", y.foresee(3, 3), 1);
        CHECK.same("bunched behind 14", y.foresee(14, 3), 1);
        CHECK.same("bunched behind 15", y.foresee(15, 3), 0);
    }

    /** In the minute 1: bus 0 left 1 in the minute 0, bus 1 is held there, and bus 2 comes to it in the minute 3. */
    private static BusStage oneHeldAt1UntilTheMinute15() {
        BusStage x = new BusStage();
        x.hold(15);
        x.start(1, 5);
        x.go(1);
        x.start(1, 5);
        x.start(0, 5);
        return x;
    }

    /** Promise 14: "in them": nothing of the minutes ahead; what is there now (a transfer, the stages) counts. */
    private static void foreseeCountsFromNowOn() {
        BusStage x = oneWhoArrivesInTheMinute5();
        x.queue(7, 8);
        x.go(6);
        CHECK.same("one has arrived, one waits", x.count(6) * 10 + x.count(4), 11);
        CHECK.same("arrivals from now on", x.foresee(120, 0), 1);
        CHECK.same("paid from now on", x.foresee(120, 1), 3);
        CHECK.same("waited from now on", x.foresee(2, 2), 2);
        x.set(8, 2, 3);
        CHECK.same("paid with one stage", x.foresee(120, 1), 2);
        x.change(0, 1);
        CHECK.same("paid with a transfer", x.foresee(120, 1), 2 + x.fare(2, 1) / 2);
    }

    private static void foreseeIs0WhereNothingIs() {
        for (int what = 0; what < 4; what++) {
            CHECK.same("an empty line, what " + what, new BusStage().foresee(120, what), 0);
        }
        CHECK.same("one bus makes no pair", Lines.withBuses(1).foresee(120, 3), 0);
    }

    /** Promise 14: "(nothing is changed)". */
    private static void foreseeChangesNothing() {
        for (int number = 0; number < 4; number++) {
            int what = number;
            CHECK.changesNothing("foresee 1, what " + what, Lines::busy, x -> x.foresee(1, what));
            CHECK.changesNothing("foresee 120, what " + what, Lines::busy, x -> x.foresee(120, what));
            CHECK.changesNothing("foresee of a full line, what " + what, Lines::full, x -> x.foresee(120, what));
        }
    }

    private static void adviseTakesTheFewestAndTheMostMinutes() {
        BusStage x = new BusStage();
        x.hold(9);
        CHECK.same("advise(1)", x.advise(1), 0);
        CHECK.same("advise(120)", x.advise(120), 0);
    }

    /** Promise 15: "IllegalArgumentException if minutes is not 1 to 120". */
    private static void adviseRefusesMinutesBeyond() {
        for (int minutes : new int[] {0, 121, -1, Integer.MIN_VALUE, Integer.MAX_VALUE}) {
            CHECK.refusesArgument("advise " + minutes, Lines::busy, x -> x.advise(minutes));
        }
    }

    /** Promise 15: "the hold, 0 to 15": the greatest one too. */
    private static void adviseGoesUpTo15() {
        BusStage x = lineWithALongHold();
        x.hold(0);
        int without = x.foresee(60, 2);
        x.hold(14);
        CHECK.holds("14 is worse than none", x.foresee(60, 2) > without);
        x.hold(15);
        CHECK.same("15 is better than none", x.foresee(60, 2), without - 28 + 1 + 15);
        x.hold(3);
        CHECK.same("advise(60) at the upper edge", x.advise(60), 15);
        CHECK.same("in 3 minutes it only costs", x.advise(3), 0);
    }

    /**
     * Bus 0 left stop 5 in the minute 0; bus 2, with one seat, can leave it in 14, and bus 1 in 15. Only with a hold
     * of 15 bus 1 leaves first and takes the long rider at 6, so that 7 and not 8 get off it at 7: the 28 who wait
     * behind 7 wait a minute less each, and those at 6 wait 1 and 15 minutes more.
     */
    private static BusStage lineWithALongHold() {
        return lineWhereOneLeaves5In(15);
    }

    private static BusStage lineWhereOneLeaves5In(int minute) {
        BusStage x = new BusStage();
        x.start(5, 1);
        x.queue(6, 5);
        x.go(minute - 6);
        x.start(4, 8);
        Lines.queueMany(x, 7, 5, 7);
        x.go(5);
        x.start(5, 1);
        x.queue(6, 5);
        x.queue(6, 7);
        for (int stop = 8; stop < 12; stop++) {
            Lines.queueMany(x, 7, stop % 10, (stop + 1) % 10);
        }
        return x;
    }

    /** Promise 15: "the hold, 0 to 15": with all a minute later, only 16 would be better than none. */
    private static void adviseGoesNotUpTo16() {
        BusStage x = lineWhereOneLeaves5In(16);
        CHECK.same("advise(60) beyond the upper edge", x.advise(60), 0);
        CHECK.same("one minute earlier", lineWhereOneLeaves5In(15).advise(60), 15);
        CHECK.same("two minutes earlier", lineWhereOneLeaves5In(14).advise(60), 14);
    }

    /** Promise 15: "so that the fewest minutes are waited in them": with the last of them, without the next one. */
    private static void adviseCountsUpToItsLastMinute() {
        int first = 0;
        for (int minutes = 1; minutes <= 60; minutes++) {
            int advised = lineWithALongHold().advise(minutes);
            CHECK.same("advise " + minutes, advised, fewestWaited(minutes));
            if (first == 0 && advised == 15) {
                first = minutes;
            }
        }
        CHECK.holds("15 is the best from some minute on", first > 3);
    }

    private static int fewestWaited(int minutes) {
        int best = 0;
        int fewest = Integer.MAX_VALUE;
        for (int hold = 0; hold <= 15; hold++) {
            int waited = waitedOn(lineWithALongHold(), hold, minutes);
            if (waited < fewest) {
                fewest = waited;
                best = hold;
            }
        }
        return best;
    }

    /** Promise 15: "of several the least": of all 16, and of those that are better than the rest. */
    private static void adviseTakesTheLeastOfSeveral() {
        BusStage x = new BusStage();
        x.hold(9);
        CHECK.same("nobody waits", x.advise(120), 0);
        x.start(0, 5);
        x.queue(5, 6);
        CHECK.same("all holds are alike", x.advise(1), 0);
        BusStage y = new BusStage();
        y.start(0, 1);
        Lines.queueMany(y, 2, 1, 5);
        y.go(2);
        y.start(0, 1);
        for (int hold = 0; hold <= 15; hold++) {
            y.hold(hold);
            CHECK.same("waited with a hold of " + hold, y.foresee(60, 2), hold <= 2 ? 2 : hold);
            CHECK.same("0, 1 and 2 are alike", y.advise(60), 0);
        }
    }

    /** Promise 15: "of several the least": 2 and 3 are the best together, 0 is worse, and 1 worse still. */
    private static void adviseTakesTheLeastOfSeveralAbove0() {
        int[] due = {423, 432, 419, 419, 421};
        for (int hold = 0; hold < due.length; hold++) {
            CHECK.same("waited with a hold of " + hold, waitedOn(lineWhere2And3AreBest(), hold, 120), due[hold]);
        }
        for (int hold = due.length; hold <= 15; hold++) {
            int waited = waitedOn(lineWhere2And3AreBest(), hold, 120);
            CHECK.holds("more is waited with a hold of " + hold, waited > 419);
        }
        for (int hold = 0; hold <= 15; hold++) {
            BusStage x = lineWhere2And3AreBest();
            x.hold(hold);
            CHECK.same("2 and 3 are the best, now it is " + hold, x.advise(120), 2);
        }
    }

    private static BusStage lineWhere2And3AreBest() {
        BusStage x = new BusStage();
        queueEach(x, 4, 2, 8, 2, 6, 1, 5, 4, 3, 8, 6, 2, 6, 8, 3, 0, 8, 5);
        x.start(7, 1);
        x.go(7);
        queueEach(x, 8, 6, 5, 8);
        x.go(1);
        queueEach(x, 6, 9, 8, 5, 9, 7);
        x.start(0, 4);
        return x;
    }

    /** Promise 15: "of several the least": 1 and 3 are the best together, and 2 between them is the worst of four. */
    private static void adviseTakesTheLeastOfSeveralFarApart() {
        int[] due = {273, 267, 274, 267, 268};
        for (int hold = 0; hold < due.length; hold++) {
            CHECK.same("waited with a hold of " + hold, waitedOn(lineWhere1And3AreBest(), hold, 84), due[hold]);
        }
        CHECK.same("1 and 3 are the best", lineWhere1And3AreBest().advise(84), 1);
    }

    private static BusStage lineWhere1And3AreBest() {
        BusStage x = new BusStage();
        queueEach(x, 5, 2, 5, 7, 6, 1, 5, 9, 3, 0, 8, 9, 6, 7, 5, 2, 9, 8, 4, 2, 9, 2);
        x.start(1, 10);
        x.start(1, 1);
        queueEach(x, 8, 3, 9, 8, 5, 6, 5, 7, 3, 7, 3, 1);
        return x;
    }

    /** Two stops each: from, to. */
    private static void queueEach(BusStage x, int... ways) {
        for (int i = 0; i + 1 < ways.length; i += 2) {
            x.queue(ways[i], ways[i + 1]);
        }
    }

    private static int waitedOn(BusStage x, int hold, int minutes) {
        int before = x.count(8);
        x.hold(hold);
        x.go(minutes);
        return x.count(8) - before;
    }

    /** Promise 15: "(nothing is changed)": nor the hold. */
    private static void adviseChangesNothing() {
        CHECK.changesNothing("advise(1)", Lines::busy, x -> x.advise(1));
        CHECK.changesNothing("advise(120)", Lines::busy, x -> x.advise(120));
        CHECK.changesNothing("advise(60) with 15", ForesightEdgesTest::lineWithALongHold, x -> x.advise(60));
        CHECK.changesNothing("advise of a full line", Lines::full, x -> x.advise(120));
    }

    /** Promise 16: "0 if there are none". */
    private static void meanIs0WithoutPassengers() {
        CHECK.same("none", new BusStage().mean(), 0.0);
        BusStage x = Lines.withBuses(6);
        x.go(120);
        CHECK.same("none, two hours later", x.mean(), 0.0);
        CHECK.same("nobody waited yet", Lines.withPassengers(1).mean(), 0.0);
    }

    /** Promise 16: "divided by the passengers": by all of them, one and fifty. */
    private static void meanCountsAllPassengers() {
        BusStage x = Lines.withPassengers(1);
        x.go(7);
        CHECK.same("7 / 1", x.mean(), 7.0);
        Lines.queueMany(x, 49, 1, 2);
        CHECK.same("7 / 50", x.mean(), 0.14);
        BusStage y = Lines.full();
        CHECK.same("those who have arrived count", y.mean(), y.count(8) / 50.0);
    }

    private static void meanIsNotCut() {
        BusStage x = Lines.withPassengers(1);
        x.go(5);
        x.queue(1, 2);
        CHECK.same("5 / 2", x.mean(), 2.5);
        x.queue(1, 2);
        CHECK.same("5 / 3", x.mean(), 5.0 / 3.0);
    }

    private static void meanChangesNothing() {
        CHECK.changesNothing("mean", Lines::busy, x -> x.mean());
    }

    /** Promise 17: "d starts with 1039"; no buses and no passengers add nothing. */
    private static void digestOfANewLine() {
        BusStage x = new BusStage();
        CHECK.same("digest of a new line", x.digest(), digestInBigNumbers(x).longValue());
        CHECK.same("and of another one", new BusStage().digest(), x.digest());
    }

    /** Promise 17: "for each bus", "for each passenger": up to the last of 6 and of 50. */
    private static void digestOfAFullLine() {
        BusStage x = Lines.full();
        CHECK.same("digest of a full line", x.digest(), digestInBigNumbers(x).longValue());
        BusStage y = Lines.withPassengers(49);
        BusStage z = Lines.withPassengers(49);
        y.queue(8, 9);
        z.queue(8, 7);
        CHECK.holds("the 50th passenger counts", y.digest() != z.digest());
        BusStage v = Lines.withBuses(5);
        BusStage w = Lines.withBuses(5);
        v.start(5, 19);
        w.start(5, 20);
        CHECK.holds("the sixth bus counts", v.digest() != w.digest());
    }

    /** Promise 17: "which wraps around as a 64-bit integer". */
    private static void digestWrapsAround() {
        BusStage x = Lines.busy();
        BigInteger whole = digestInBigNumbers(x);
        CHECK.holds("it is beyond 64 bits", whole.bitLength() > 64);
        BigInteger wrapped = whole.mod(TWO_TO_64);
        BigInteger signed = wrapped.testBit(63) ? wrapped.subtract(TWO_TO_64) : wrapped;
        CHECK.same("digest of a busy line", x.digest(), signed.longValueExact());
    }

    /** On a full line with at most 510 calls. */
    private static BigInteger digestInBigNumbers(BusStage x) {
        int buses = x.count(2);
        int passengers = x.count(3);
        BigInteger due = BigInteger.valueOf(1039);
        for (int what = 0; what < 10; what++) {
            due = next(due, x.count(what));
        }
        for (int stop = 0; stop < 10; stop++) {
            for (int what = 0; what < 5; what++) {
                due = next(due, x.stop(stop, what));
            }
        }
        for (int bus = 0; bus < buses; bus++) {
            for (int what = 0; what < 6; what++) {
                due = next(due, x.bus(bus, what));
            }
        }
        for (int passenger = 0; passenger < passengers; passenger++) {
            for (int what = 0; what < 7; what++) {
                due = next(due, x.passenger(passenger, what));
            }
        }
        return due;
    }

    private static BigInteger next(BigInteger due, int number) {
        return due.multiply(BigInteger.valueOf(31)).add(BigInteger.valueOf(number));
    }

    private static void digestChangesNothing() {
        CHECK.changesNothing("digest", Lines::busy, x -> x.digest());
    }
}
