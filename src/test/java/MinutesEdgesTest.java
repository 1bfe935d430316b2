/** The boundary cases of what is there and of a minute: promises 8, 10, 11 and 12, a test for each sentence. */
public final class MinutesEdgesTest {
    private static final Check CHECK = new Check();

    public static void main(String[] args) {
        busTakesTheFirstAndTheLast();
        busRefusesOneBeyond();
        busTakesTheFirstAndTheLastWhat();
        busRefusesAWhatBeyond();
        stopTakesTheFirstAndTheLast();
        stopRefusesOneBeyond();
        stopTakesTheFirstAndTheLastWhat();
        stopRefusesAWhatBeyond();
        noDepartureIsMinus1();
        countTakesTheFirstAndTheLastWhat();
        countRefusesAWhatBeyond();
        theFewestAndTheMostPairs();
        oneThatStandsAndOneThatGoesAreNoPair();
        goTakesTheFewestAndTheMostMinutes();
        goRefusesMinutesBeyond();
        goCountsUpToItsLastMinute();
        goCountsNoneWithoutArrivals();
        the512thCallIsAnswered();
        withNoneLeftItComes();
        behind9Comes0();
        aBusThatCameStandsItsMinutes();
        aBusThatLeavesHasAllMinutes();
        eachTwoWhoGetOnAreAMinute();
        eachFourWhoGetOffAreAMinute();
        onAndOffAreCutEach();
        theLastSeatIsTaken();
        aSeatThatGetsFreeIsTakenAtOnce();
        numbersGoAheadOfTheWaiting();
        onlyThoseWhoWantThereGetOff();
        onlyThoseWhoWaitThereGetOn();
        withNoneLeftAlsoNowItGoes();
        noneLeftStaysNone();
        withoutAHoldBothGo();
        withAHoldTheFirstToLeaveGoes();
        itGoesAsManyMinutesAgoAsTheHold();
        itGoesMoreMinutesAgoThanTheHold();
        busByBus();
        thoseWhoWaitHaveWaitedAMinuteMore();
        CHECK.finish();
    }

    private static void busTakesTheFirstAndTheLast() {
        BusStage x = Lines.withBuses(5);
        x.start(9, 20);
        CHECK.same("bus 0", x.bus(0, 0), 0);
        CHECK.same("bus 5", x.bus(5, 0), 9);
    }

    /** Promise 8: "IndexOutOfBoundsException if there is no such bus". */
    private static void busRefusesOneBeyond() {
        for (int bus : new int[] {-1, 3, 5, 6, Integer.MIN_VALUE, Integer.MAX_VALUE}) {
            CHECK.refusesIndex("bus " + bus, Lines::busy, x -> x.bus(bus, 0));
        }
        CHECK.refusesIndex("of 6, bus -1", Lines::full, x -> x.bus(-1, 0));
        CHECK.refusesIndex("of 6, bus 6", Lines::full, x -> x.bus(6, 0));
    }

    private static void busTakesTheFirstAndTheLastWhat() {
        BusStage x = Lines.busy();
        CHECK.same("what 0", x.bus(0, 0), 3);
        CHECK.same("what 5", x.bus(0, 5), 3 + 3 + 7);
    }

    /** Promise 8: "or what is not 0 to 5". */
    private static void busRefusesAWhatBeyond() {
        for (int what : new int[] {-1, 6, Integer.MIN_VALUE, Integer.MAX_VALUE}) {
            CHECK.refusesIndex("bus what " + what, Lines::busy, x -> x.bus(0, what));
        }
    }

    private static void stopTakesTheFirstAndTheLast() {
        BusStage x = new BusStage();
        x.set(0, 9, 5);
        x.set(9, 1, 6);
        CHECK.same("stop 0", x.stop(0, 0), 9);
        CHECK.same("stop 9", x.stop(9, 0), 1);
    }

    /** Promise 10: "IndexOutOfBoundsException if stop is not 0 to 9". */
    private static void stopRefusesOneBeyond() {
        for (int stop : new int[] {-1, 10, Integer.MIN_VALUE, Integer.MAX_VALUE}) {
            CHECK.refusesIndex("stop " + stop, Lines::busy, x -> x.stop(stop, 0));
        }
    }

    private static void stopTakesTheFirstAndTheLastWhat() {
        BusStage x = Lines.busy();
        CHECK.same("what 0", x.stop(4, 0), 3);
        CHECK.same("what 4", x.stop(9, 4), 9);
    }

    /** Promise 10: "or what is not 0 to 4". */
    private static void stopRefusesAWhatBeyond() {
        for (int what : new int[] {-1, 5, Integer.MIN_VALUE, Integer.MAX_VALUE}) {
            CHECK.refusesIndex("stop what " + what, Lines::busy, x -> x.stop(0, what));
        }
    }

    /** Promise 10: "the minute in which the latest bus left it, -1 if none did": the minute 0 is one too. */
    private static void noDepartureIsMinus1() {
        BusStage x = new BusStage();
        x.start(0, 5);
        CHECK.same("none left 0", x.stop(0, 4), -1);
        x.go(3);
        CHECK.same("one left 0 in the minute 0", x.stop(0, 4), 0);
        CHECK.same("one came to 1, and none left it", x.stop(1, 4), -1);
    }

    private static void countTakesTheFirstAndTheLastWhat() {
        BusStage x = Lines.busy();
        CHECK.same("what 0", x.count(0), 10);
        CHECK.same("what 9", x.count(9), 0);
    }

    /** Promise 11: "IndexOutOfBoundsException if what is not 0 to 9". */
    private static void countRefusesAWhatBeyond() {
        for (int what : new int[] {-1, 10, Integer.MIN_VALUE, Integer.MAX_VALUE}) {
            CHECK.refusesIndex("count what " + what, Lines::busy, x -> x.count(what));
        }
    }

    /** Promise 11: "pairs of buses .. that stand at the same stop, or go from the same stop". */
    private static void theFewestAndTheMostPairs() {
        BusStage x = new BusStage();
        CHECK.same("no bus", x.count(9), 0);
        int[] pairs = {0, 1, 3, 6, 10, 15};
        for (int number = 0; number < 6; number++) {
            x.start(9, 5);
            CHECK.same("standing buses: " + (number + 1), x.count(9), pairs[number]);
        }
        x.go(1);
        CHECK.same("six go from the same stop", x.count(9), 15);
        CHECK.same("six at six stops", Lines.withBuses(6).count(9), 0);
    }

    private static void oneThatStandsAndOneThatGoesAreNoPair() {
        BusStage x = new BusStage();
        x.start(2, 5);
        x.go(1);
        x.start(2, 5);
        CHECK.same("at 2 and from 2", x.count(9), 0);
        x.start(2, 5);
        CHECK.same("two at 2 and one from 2", x.count(9), 1);
    }

    private static void goTakesTheFewestAndTheMostMinutes() {
        BusStage x = Lines.busy();
        x.go(1);
        CHECK.same("a minute more", x.count(0), 11);
        x.go(120);
        CHECK.same("120 minutes more", x.count(0), 131);
    }

    /** Promise 12: "IllegalArgumentException if minutes is not 1 to 120". */
    private static void goRefusesMinutesBeyond() {
        for (int minutes : new int[] {0, 121, -1, Integer.MIN_VALUE, Integer.MAX_VALUE}) {
            CHECK.refusesArgument("go " + minutes, Lines::busy, x -> x.go(minutes));
        }
    }

    /** Promise 12: "how many passengers arrive in them": in the last of them too, and none of those ahead. */
    private static void goCountsUpToItsLastMinute() {
        CHECK.same("in 5 minutes not yet", oneWhoArrivesInTheMinute5().go(5), 0);
        CHECK.same("in 6 minutes", oneWhoArrivesInTheMinute5().go(6), 1);
        CHECK.same("in 7 minutes", oneWhoArrivesInTheMinute5().go(7), 1);
        BusStage x = oneWhoArrivesInTheMinute5();
        x.go(5);
        CHECK.same("in the very minute", x.go(1), 1);
        CHECK.same("in the next one", x.go(1), 0);
        CHECK.same("in 120 more", x.go(120), 0);
    }

    private static BusStage oneWhoArrivesInTheMinute5() {
        BusStage x = new BusStage();
        x.start(0, 5);
        x.queue(1, 2);
        return x;
    }

    private static void goCountsNoneWithoutArrivals() {
        CHECK.same("an empty line", new BusStage().go(120), 0);
        CHECK.same("no bus", Lines.withPassengers(50).go(120), 0);
        CHECK.same("no passenger", Lines.withBuses(6).go(120), 0);
    }

    /** "An object is used for at most 512 calls after it has been made". */
    private static void the512thCallIsAnswered() {
        BusStage x = new BusStage();
        x.start(0, 1);
        for (int call = 2; call < 512; call++) {
            x.go(120);
        }
        CHECK.same("the 512th call", x.count(0), 510 * 120);
    }

    /** "One that goes has a minute less to go; with none left it comes to the next stop". */
    private static void withNoneLeftItComes() {
        BusStage x = new BusStage();
        x.start(3, 5);
        x.go(2);
        CHECK.same("one left: it goes", x.bus(0, 1), 1);
        CHECK.same("one left", x.bus(0, 2), 1);
        CHECK.same("from 3", x.bus(0, 0), 3);
        x.go(1);
        CHECK.same("none left: it stands", x.bus(0, 1), 0);
        CHECK.same("at 4", x.bus(0, 0), 4);
    }

    /** "round: behind 9 comes 0". */
    private static void behind9Comes0() {
        BusStage x = new BusStage();
        x.start(9, 5);
        x.queue(0, 1);
        x.go(2);
        CHECK.same("goes from 9", x.bus(0, 0), 9);
        x.go(1);
        CHECK.same("comes to 0", x.bus(0, 0), 0);
        CHECK.same("one got on there", x.bus(0, 4), 1);
        x.go(120);
        CHECK.same("it left 0 for the fourth time, each behind 30 minutes", x.stop(0, 4), 3 + 3 * 30);
    }

    /** "each does one of both, by what it did ahead of the minute": one that came does not stand a minute off yet. */
    private static void aBusThatCameStandsItsMinutes() {
        BusStage x = new BusStage();
        x.start(0, 5);
        x.go(3);
        CHECK.same("it stands for 1 minute", x.bus(0, 2), 1);
        CHECK.same("it stands", x.bus(0, 1), 0);
        x.go(1);
        CHECK.same("it goes", x.bus(0, 1), 1);
    }

    /** "It leaves in this minute, and has all minutes to the next stop to go": at least 1, at most 9. */
    private static void aBusThatLeavesHasAllMinutes() {
        for (int minutes : new int[] {1, 9}) {
            BusStage x = new BusStage();
            x.set(0, minutes, 0);
            x.start(0, 5);
            x.go(1);
            CHECK.same("it goes", x.bus(0, 1), 1);
            CHECK.same("minutes to go of " + minutes, x.bus(0, 2), minutes);
        }
    }

    /** "it stands for 1 minute, 1 more for each two who got on": cut, for none and for all seats. */
    private static void eachTwoWhoGetOnAreAMinute() {
        int[] stands = {1, 1, 2, 2, 3, 3};
        for (int on = 0; on < stands.length; on++) {
            CHECK.same("stands with got on " + on, standsWith(0, on), stands[on]);
        }
        CHECK.same("stands with got on 19", standsWith(0, 19), 10);
        CHECK.same("stands with got on 20", standsWith(0, 20), 11);
    }

    /** "and 1 more for each four who got off": cut, for none and for all seats. */
    private static void eachFourWhoGetOffAreAMinute() {
        int[] stands = {1, 1, 1, 1, 2, 2, 2, 2, 3};
        for (int off = 0; off < stands.length; off++) {
            CHECK.same("stands with got off " + off, standsWith(off, 0), stands[off]);
        }
        CHECK.same("stands with got off 19", standsWith(19, 0), 5);
        CHECK.same("stands with got off 20", standsWith(20, 0), 6);
    }

    /** "(each cut)": what is left of the one is not added to what is left of the other. */
    private static void onAndOffAreCutEach() {
        CHECK.same("1 off, 1 on", standsWith(1, 1), 1);
        CHECK.same("2 off, 1 on", standsWith(2, 1), 1);
        CHECK.same("3 off, 1 on", standsWith(3, 1), 1);
        CHECK.same("4 off, 1 on", standsWith(4, 1), 2);
        CHECK.same("3 off, 2 on", standsWith(3, 2), 2);
        CHECK.same("7 off, 3 on", standsWith(7, 3), 3);
        CHECK.same("4 off, 2 on", standsWith(4, 2), 3);
    }

    /** The minutes for which a bus stands at 2, where so many get off and on. */
    private static int standsWith(int off, int on) {
        BusStage x = new BusStage();
        Lines.queueMany(x, off, 1, 2);
        Lines.queueMany(x, on, 2, 3);
        x.start(0, 20);
        x.go(3);
        x.go(x.bus(0, 2) + 2);
        CHECK.same("it came to 2", x.bus(0, 0) * 10 + x.bus(0, 1), 20);
        CHECK.same("got off", x.count(6), off);
        CHECK.same("got on", x.count(5), on);
        return x.bus(0, 2);
    }

    /** "as long as there are seats": of 1 and of 20. */
    private static void theLastSeatIsTaken() {
        for (int seats : new int[] {1, 20}) {
            BusStage x = new BusStage();
            x.start(0, seats);
            Lines.queueMany(x, seats + 1, 1, 9);
            x.queue(2, 9);
            x.go(3);
            CHECK.same("all seats of " + seats, x.bus(0, 4), seats);
            CHECK.same("the last who got on", x.passenger(seats - 1, 0), 1);
            CHECK.same("the first who did not", x.passenger(seats, 0), 0);
            x.go(x.bus(0, 2) + 2);
            CHECK.same("a full bus at 2", x.bus(0, 0) * 100 + x.bus(0, 4), 200 + seats);
            CHECK.same("takes nobody", x.passenger(seats + 1, 0), 0);
            CHECK.same("and stands for 1 minute", x.bus(0, 2), 1);
        }
    }

    /** "first all riders who want to get off there arrive; then .. those who wait there get on". */
    private static void aSeatThatGetsFreeIsTakenAtOnce() {
        BusStage x = new BusStage();
        x.start(0, 1);
        x.queue(2, 3);
        x.queue(1, 2);
        CHECK.same("1 arrives at 2", x.go(6), 1);
        CHECK.same("0 got on in the same minute", x.passenger(0, 0), 1);
        CHECK.same("one rider", x.bus(0, 4), 1);
    }

    /** "then, by numbers, those who wait there get on": one who came later with a lower number is ahead. */
    private static void numbersGoAheadOfTheWaiting() {
        BusStage x = new BusStage();
        x.start(0, 1);
        x.queue(1, 2);
        x.queue(2, 4);
        x.queue(2, 5);
        x.go(6);
        CHECK.same("1 rides from 2", x.passenger(1, 0), 1);
        x.change(0, 9);
        x.go(30);
        CHECK.same("0, there since the minute 6, got on", x.passenger(0, 0), 1);
        CHECK.same("2, there since the minute 0, did not", x.passenger(2, 0), 0);
    }

    /** "all riders who want to get off there arrive": those who want elsewhere, or ride in another bus, stay. */
    private static void onlyThoseWhoWantThereGetOff() {
        BusStage x = new BusStage();
        x.start(0, 2);
        x.start(0, 2);
        x.queue(1, 3);
        x.queue(1, 2);
        x.queue(1, 2);
        x.go(5);
        CHECK.same("bus 1 leads, by its shorter stand", x.bus(1, 2), 1);
        CHECK.same("bus 0 is behind", x.bus(0, 2), 2);
        CHECK.same("one of bus 1 arrives", x.go(1), 1);
        CHECK.same("it is 2", x.passenger(2, 0), 2);
        CHECK.same("1 rides in bus 0 yet", x.passenger(1, 3), 0);
        CHECK.same("one of bus 0 arrives", x.go(1), 1);
        CHECK.same("0 wants elsewhere", x.passenger(0, 3), 0);
    }

    /** "those who wait there get on": none of another stop, and none who has arrived there. */
    private static void onlyThoseWhoWaitThereGetOn() {
        BusStage x = new BusStage();
        x.start(0, 20);
        x.queue(2, 3);
        x.queue(0, 1);
        x.queue(9, 1);
        x.go(3);
        CHECK.same("none waits at 1", x.bus(0, 4), 0);
        x.go(6);
        CHECK.same("0 has arrived at 3", x.passenger(0, 0), 2);
        CHECK.same("and did not get on again", x.bus(0, 4), 0);
    }

    /** "has a minute less to stand ..; with none left (also now) it goes". */
    private static void withNoneLeftAlsoNowItGoes() {
        BusStage x = new BusStage();
        x.start(0, 20);
        Lines.queueMany(x, 2, 1, 9);
        x.go(3);
        CHECK.same("two left to stand", x.bus(0, 2), 2);
        x.go(1);
        CHECK.same("one left: it stands", x.bus(0, 1) * 10 + x.bus(0, 2), 1);
        x.go(1);
        CHECK.same("none left now: it goes", x.bus(0, 1), 1);
        CHECK.same("in this minute", x.stop(1, 4), 4);
    }

    /** "as long as there are some". */
    private static void noneLeftStaysNone() {
        BusStage x = twoBusesWithAHold(15);
        for (int minute = 1; minute < 15; minute++) {
            CHECK.same("minute " + minute + ": held", x.bus(1, 1), 0);
            CHECK.same("minute " + minute + ": none left", x.bus(1, 2), 0);
            x.go(1);
        }
    }

    /** "it goes, if the hold is 0". */
    private static void withoutAHoldBothGo() {
        BusStage x = twoBusesWithAHold(0);
        CHECK.same("the first one goes", x.bus(0, 1), 1);
        CHECK.same("the second one goes", x.bus(1, 1), 1);
    }

    /** "or no bus ever left this stop". */
    private static void withAHoldTheFirstToLeaveGoes() {
        BusStage x = twoBusesWithAHold(15);
        CHECK.same("the first one goes in the minute 0", x.stop(0, 4), 0);
        CHECK.same("the first one goes", x.bus(0, 1), 1);
        CHECK.same("the second one does not", x.bus(1, 1), 0);
        x.go(3);
        CHECK.same("the first one leaves 1 too", x.stop(1, 4), 3);
    }

    /** "or the latest one left it as many minutes ago as the hold": of 1 and of 15. */
    private static void itGoesAsManyMinutesAgoAsTheHold() {
        for (int hold = 1; hold <= 15; hold++) {
            BusStage x = twoBusesWithAHold(hold);
            if (hold > 1) {
                x.go(hold - 1);
            }
            CHECK.same(hold + ": held a minute less", x.bus(1, 1), 0);
            CHECK.same(hold + ": the first one left in 0", x.stop(0, 4), 0);
            x.go(1);
            CHECK.same(hold + ": it goes", x.bus(1, 1), 1);
            CHECK.same(hold + ": in the minute of the hold", x.stop(0, 4), hold);
            CHECK.same(hold + ": it has all minutes to go", x.bus(1, 2), 2);
        }
    }

    /** "or more". */
    private static void itGoesMoreMinutesAgoThanTheHold() {
        BusStage x = twoBusesWithAHold(15);
        x.go(9);
        x.hold(3);
        x.go(1);
        CHECK.same("10 minutes ago, a hold of 3", x.stop(0, 4), 10);
    }

    /** Two buses at 0 with a minute left, one minute later. */
    private static BusStage twoBusesWithAHold(int hold) {
        BusStage x = new BusStage();
        x.hold(hold);
        x.start(0, 5);
        x.start(0, 5);
        x.go(1);
        return x;
    }

    /** "A minute goes like this, bus by bus": what bus 0 does counts for bus 1 in the same minute. */
    private static void busByBus() {
        BusStage x = new BusStage();
        x.start(0, 1);
        x.start(0, 1);
        Lines.queueMany(x, 2, 1, 5);
        x.go(3);
        CHECK.same("0 got on bus 0", x.passenger(0, 3), 0);
        CHECK.same("1 got on bus 1", x.passenger(1, 3), 1);
        BusStage y = twoBusesWithAHold(1);
        y.go(1);
        CHECK.same("bus 1 left a minute behind bus 0", y.stop(0, 4), 1);
    }

    /** "Then all who wait have waited a minute more": not those who got on in it, or arrived. */
    private static void thoseWhoWaitHaveWaitedAMinuteMore() {
        BusStage x = new BusStage();
        x.start(0, 1);
        x.queue(1, 2);
        x.queue(1, 2);
        x.go(2);
        CHECK.same("both waited", x.count(8), 4);
        x.go(1);
        CHECK.same("0 got on in this minute", x.passenger(0, 5), 2);
        CHECK.same("1 waits on", x.passenger(1, 5), 3);
        x.go(3);
        CHECK.same("0 has arrived, and waited no more", x.passenger(0, 5), 2);
        x.change(0, 1);
        CHECK.same("a change takes no minute", x.passenger(0, 5), 2);
        x.go(1);
        CHECK.same("0 waits again", x.passenger(0, 5), 3);
        CHECK.same("the minute is 1 greater", x.count(0), 7);
    }
}
