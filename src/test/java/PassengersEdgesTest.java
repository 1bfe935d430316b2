/** The boundary cases of the passengers: promises 5, 6 and 9, a test for each sentence. */
public final class PassengersEdgesTest {
    private static final Check CHECK = new Check();

    public static void main(String[] args) {
        queueTakesTheFirstAndTheLastStop();
        queueRefusesAStopBeyond();
        queueRefusesTheSameStop();
        queueTakesTheFiftiethAndRefusesTheNext();
        thoseWhoHaveArrivedAreThereToo();
        queueNamesTheFirstThatApplies();
        aRefusedQueueTakesNoNumber();
        changeTakesTheFirstAndTheLastPassenger();
        changeRefusesAPassengerBeyond();
        changeTakesTheFirstAndTheLastStop();
        changeRefusesAStopBeyond();
        changeRefusesOneWhoWaits();
        changeRefusesOneWhoRides();
        changeRefusesWhereThisOneIs();
        changeNamesTheFirstThatApplies();
        aTransferHoldsFromTheFirstMinute();
        aTransferHoldsTo20Minutes();
        aTransferHoldsHoweverLongTheWaiting();
        withoutATransferASoonFareIsWhole();
        halfOfAFareIsCut();
        aTransferIsForTheNextFare();
        theNextArrivalGivesTheNextTransfer();
        aRefusedChangeTakesNoTransfer();
        aRefusedChangeGivesNoTransfer();
        aNewPassengerHasNoTransfer();
        passengerTakesTheFirstAndTheLast();
        passengerRefusesOneBeyond();
        passengerTakesTheFirstAndTheLastWhat();
        passengerRefusesAWhatBeyond();
        noBusIsMinus1();
        noArrivalIsMinus1();
        whereOneIsOrGotOn();
        CHECK.finish();
    }

    private static void queueTakesTheFirstAndTheLastStop() {
        BusStage x = new BusStage();
        CHECK.same("queue(0, 9)", x.queue(0, 9), 0);
        CHECK.same("queue(9, 0)", x.queue(9, 0), 1);
        CHECK.same("from 0", x.passenger(0, 1), 0);
        CHECK.same("to 9", x.passenger(0, 2), 9);
        CHECK.same("from 9", x.passenger(1, 1), 9);
        CHECK.same("to 0", x.passenger(1, 2), 0);
    }

    /** Promise 5: "IndexOutOfBoundsException if from or to is not 0 to 9". */
    private static void queueRefusesAStopBeyond() {
        for (int stop : new int[] {-1, 10, Integer.MIN_VALUE, Integer.MAX_VALUE}) {
            CHECK.refusesIndex("queue from " + stop, Lines::busy, x -> x.queue(stop, 5));
            CHECK.refusesIndex("queue to " + stop, Lines::busy, x -> x.queue(5, stop));
        }
    }

    /** Promise 5: "IllegalArgumentException if both are the same". */
    private static void queueRefusesTheSameStop() {
        for (int number = 0; number < 10; number++) {
            int stop = number;
            CHECK.refusesArgument("queue from " + stop + " to itself", Lines::busy, x -> x.queue(stop, stop));
        }
    }

    /** Promise 5: "IllegalStateException if there are 50". */
    private static void queueTakesTheFiftiethAndRefusesTheNext() {
        BusStage x = Lines.withPassengers(49);
        CHECK.same("the 50th passenger", x.queue(9, 0), 49);
        CHECK.same("passengers", x.count(3), 50);
        CHECK.same("the 50th waits at 9", x.stop(9, 2), 1);
        CHECK.refusesState("the 51st passenger", () -> Lines.withPassengers(50), y -> y.queue(9, 0));
    }

    /** There are 50 also when some of them have arrived, or ride. */
    private static void thoseWhoHaveArrivedAreThereToo() {
        CHECK.refusesState("the 51st, five have arrived", Lines::full, x -> x.queue(1, 2));
    }

    /** "If several exceptions apply, the one that is named first is thrown." */
    private static void queueNamesTheFirstThatApplies() {
        CHECK.refusesIndex("queue: beyond and the same", Lines::busy, x -> x.queue(10, 10));
        CHECK.refusesIndex("queue: beyond below and the same", Lines::busy, x -> x.queue(-1, -1));
        CHECK.refusesIndex("queue: from beyond and 50", Lines::full, x -> x.queue(10, 0));
        CHECK.refusesIndex("queue: to beyond and 50", Lines::full, x -> x.queue(0, -1));
        CHECK.refusesIndex("queue: all three", Lines::full, x -> x.queue(10, 10));
        CHECK.refusesArgument("queue: the same and 50", Lines::full, x -> x.queue(0, 0));
    }

    /** "A method that throws an exception changes nothing": nor the number of the next one. */
    private static void aRefusedQueueTakesNoNumber() {
        BusStage x = Lines.withPassengers(49);
        try {
            x.queue(3, 3);
            CHECK.holds("queue(3, 3) is refused", false);
        } catch (IllegalArgumentException refused) {
            CHECK.same("the number behind a refused queue", x.queue(3, 4), 49);
        }
    }

    private static void changeTakesTheFirstAndTheLastPassenger() {
        BusStage x = fiftyOfWhomTheEndsArrived();
        CHECK.holds("change(0, 5)", x.change(0, 5));
        CHECK.holds("change(49, 5)", x.change(49, 5));
        CHECK.same("both wait again at 4", x.stop(4, 2), 2);
    }

    /** Passengers 0 and 49 go from 3 to 4; the 48 others wait where no bus comes before. */
    private static BusStage fiftyOfWhomTheEndsArrived() {
        BusStage x = new BusStage();
        x.queue(3, 4);
        Lines.queueMany(x, 48, 8, 9);
        x.queue(3, 4);
        x.start(2, 20);
        x.go(8);
        return x;
    }

    /** Promise 6: "IndexOutOfBoundsException if there is no such passenger". */
    private static void changeRefusesAPassengerBeyond() {
        for (int passenger : new int[] {-1, 4, 50, Integer.MIN_VALUE, Integer.MAX_VALUE}) {
            CHECK.refusesIndex("change passenger " + passenger, Lines::busy, x -> x.change(passenger, 5));
        }
        for (int passenger : new int[] {-1, 50}) {
            CHECK.refusesIndex("of 50, change passenger " + passenger,
                PassengersEdgesTest::fiftyOfWhomTheEndsArrived, x -> x.change(passenger, 5));
        }
    }

    private static void changeTakesTheFirstAndTheLastStop() {
        for (int stop : new int[] {0, 9}) {
            BusStage x = Lines.busy();
            CHECK.holds("change to " + stop, x.change(1, stop));
            CHECK.same("wants to " + stop, x.passenger(1, 2), stop);
            CHECK.same("waits", x.passenger(1, 0), 0);
            CHECK.same("where this one is", x.passenger(1, 1), 3);
        }
    }

    /** Promise 6: "or to is not 0 to 9". */
    private static void changeRefusesAStopBeyond() {
        for (int stop : new int[] {-1, 10, Integer.MIN_VALUE, Integer.MAX_VALUE}) {
            CHECK.refusesIndex("change to " + stop, Lines::busy, x -> x.change(1, stop));
        }
    }

    /** Promise 6: "IllegalStateException if this one has not arrived". */
    private static void changeRefusesOneWhoWaits() {
        CHECK.refusesState("change one who waits first", Lines::busy, x -> x.change(3, 9));
        CHECK.refusesState("change one who waits again", Lines::busy, x -> x.change(0, 9));
        CHECK.refusesState("change one who waits, to where this one wants", Lines::busy, x -> x.change(3, 5));
        CHECK.refusesState("change one who waits, to where this one is", Lines::busy, x -> x.change(3, 6));
    }

    /** Promise 6: "IllegalStateException if this one has not arrived". */
    private static void changeRefusesOneWhoRides() {
        CHECK.refusesState("change one who rides", Lines::busy, x -> x.change(2, 9));
        CHECK.refusesState("change one who rides, to where this one got on", Lines::busy, x -> x.change(2, 1));
    }

    /** Promise 6: "or is there already". */
    private static void changeRefusesWhereThisOneIs() {
        CHECK.refusesState("change to where this one is", Lines::busy, x -> x.change(1, 3));
        BusStage x = Lines.busy();
        CHECK.holds("change to where this one came from", x.change(1, 1));
    }

    /** "If several exceptions apply, the one that is named first is thrown." */
    private static void changeNamesTheFirstThatApplies() {
        CHECK.refusesIndex("change: both beyond", Lines::busy, x -> x.change(4, 10));
        CHECK.refusesIndex("change: waits, and stop beyond", Lines::busy, x -> x.change(3, 10));
        CHECK.refusesIndex("change: rides, and stop below", Lines::busy, x -> x.change(2, -1));
    }

    /** The minute behind that of the arrival is the first in which one can go on. */
    private static void aTransferHoldsFromTheFirstMinute() {
        CHECK.holds("1 minute behind the arrival", arrivedMinutesAgo(1).change(0, 2));
    }

    /** "A passenger who goes on 20 minutes or less behind the arrival has a transfer". */
    private static void aTransferHoldsTo20Minutes() {
        CHECK.holds("19 minutes behind the arrival", arrivedMinutesAgo(19).change(0, 2));
        CHECK.holds("20 minutes behind the arrival", arrivedMinutesAgo(20).change(0, 2));
        CHECK.holds("none 21 minutes behind it", !arrivedMinutesAgo(21).change(0, 2));
        CHECK.holds("none long behind it", !arrivedMinutesAgo(200).change(0, 2));
    }

    /** Passenger 0 went from 1 to 3 for 3, and arrived in the minute 8; the bus comes to 3 in 38, 68, 98 .. again. */
    private static BusStage arrivedMinutesAgo(int minutes) {
        BusStage x = new BusStage();
        x.start(0, 5);
        x.queue(1, 3);
        x.go(9);
        for (int minute = 9; minute < 8 + minutes; minute++) {
            x.go(1);
        }
        CHECK.same("the minutes behind the arrival", x.count(0) - x.passenger(0, 6), minutes);
        return x;
    }

    /** "however long the waiting then is". */
    private static void aTransferHoldsHoweverLongTheWaiting() {
        BusStage x = new BusStage();
        x.start(1, 1);
        x.queue(2, 3);
        x.go(6);
        CHECK.holds("a transfer", x.change(0, 2));
        // The one seat is taken at 2 in each of the next rounds, so that nobody gets on at 3.
        Lines.queueMany(x, 6, 2, 4);
        x.go(120);
        CHECK.same("still waits", x.passenger(0, 0), 0);
        x.go(120);
        CHECK.same("rode, behind more than 120 minutes", x.passenger(0, 0), 2);
        CHECK.holds("waited long", x.passenger(0, 5) > 120);
        CHECK.same("half of 7", x.passenger(0, 4), 2 + 3);
    }

    /** 21 minutes are too many, be the waiting never so short. */
    private static void withoutATransferASoonFareIsWhole() {
        BusStage x = arrivedMinutesAgo(30);
        CHECK.holds("no transfer", !x.change(0, 2));
        x.go(1);
        CHECK.same("got on at once", x.passenger(0, 0), 1);
        CHECK.same("the whole fare of 7", x.passenger(0, 4), 3 + 7);
    }

    /** "pays half of the next fare"; "/ is cut towards 0". */
    private static void halfOfAFareIsCut() {
        int[] stops = {4, 6, 8, 1, 2};
        int[] fares = {3, 4, 5, 6, 7};
        for (int i = 0; i < stops.length; i++) {
            BusStage x = arrivedMinutesAgo(20);
            CHECK.same("the whole fare to " + stops[i], x.fare(3, stops[i]), fares[i]);
            x.change(0, stops[i]);
            x.go(30);
            CHECK.same("half of " + fares[i], x.passenger(0, 4), 3 + fares[i] / 2);
            CHECK.same("and so in the bus", x.bus(0, 5), 3 + fares[i] / 2);
        }
        BusStage x = arrivedMinutesAgo(20);
        x.set(4, 2, 1);
        x.change(0, 4);
        x.go(30);
        CHECK.same("half of the least, 2", x.passenger(0, 4), 3 + 1);
    }

    /** "half of the next fare": of no further one. */
    private static void aTransferIsForTheNextFare() {
        BusStage x = arrivedMinutesAgo(20);
        x.change(0, 4);
        x.go(14);
        CHECK.same("arrived at 4 in the minute 41", x.passenger(0, 6), 41);
        CHECK.same("half of 3", x.passenger(0, 4), 3 + 1);
        x.go(20);
        CHECK.holds("no second one", !x.change(0, 6));
        x.go(30);
        CHECK.same("the whole of 3", x.passenger(0, 4), 4 + 3);
    }

    /** "20 minutes or less behind the arrival": the latest one. */
    private static void theNextArrivalGivesTheNextTransfer() {
        BusStage x = arrivedMinutesAgo(21);
        CHECK.holds("none of the first arrival", !x.change(0, 4));
        x.go(33);
        CHECK.same("21 minutes behind the second one", x.count(0) - x.passenger(0, 6), 21);
        BusStage y = arrivedMinutesAgo(21);
        y.change(0, 4);
        y.go(32);
        CHECK.holds("one of the second arrival", y.change(0, 6));
        CHECK.holds("none a minute later", !x.change(0, 6));
    }

    /** "A method that throws an exception changes nothing": one who waits with a transfer keeps it. */
    private static void aRefusedChangeTakesNoTransfer() {
        BusStage x = arrivedMinutesAgo(20);
        x.change(0, 2);
        x.go(5);
        try {
            x.change(0, 4);
            CHECK.holds("a change of one who waits is refused", false);
        } catch (IllegalStateException refused) {
            x.go(25);
            CHECK.same("still half of 7", x.passenger(0, 4), 3 + 3);
        }
    }

    /** "A method that throws an exception changes nothing": one who stays has no transfer later. */
    private static void aRefusedChangeGivesNoTransfer() {
        BusStage x = arrivedMinutesAgo(20);
        try {
            x.change(0, 3);
            CHECK.holds("a change to where this one is is refused", false);
        } catch (IllegalStateException refused) {
            x.go(1);
            CHECK.holds("none in the next minute", !x.change(0, 2));
            x.go(30);
            CHECK.same("the whole fare of 7", x.passenger(0, 4), 3 + 7);
        }
    }

    /** One who never arrived has none, though the minute is below 20. */
    private static void aNewPassengerHasNoTransfer() {
        BusStage x = new BusStage();
        x.start(0, 5);
        x.queue(1, 2);
        x.go(3);
        CHECK.same("the whole first fare", x.passenger(0, 4), 3);
    }

    private static void passengerTakesTheFirstAndTheLast() {
        BusStage x = Lines.withPassengers(49);
        x.queue(9, 8);
        CHECK.same("passenger 0", x.passenger(0, 1), 1);
        CHECK.same("passenger 49", x.passenger(49, 1), 9);
    }

    /** Promise 9: "IndexOutOfBoundsException if there is no such passenger". */
    private static void passengerRefusesOneBeyond() {
        for (int passenger : new int[] {-1, 4, 49, 50, Integer.MIN_VALUE, Integer.MAX_VALUE}) {
            CHECK.refusesIndex("passenger " + passenger, Lines::busy, x -> x.passenger(passenger, 0));
        }
        CHECK.refusesIndex("of 50, passenger -1", Lines::full, x -> x.passenger(-1, 0));
        CHECK.refusesIndex("of 50, passenger 50", Lines::full, x -> x.passenger(50, 0));
    }

    private static void passengerTakesTheFirstAndTheLastWhat() {
        BusStage x = Lines.busy();
        CHECK.same("what 0", x.passenger(1, 0), 2);
        CHECK.same("what 6", x.passenger(1, 6), 9);
    }

    /** Promise 9: "or what is not 0 to 6". */
    private static void passengerRefusesAWhatBeyond() {
        for (int what : new int[] {-1, 7, Integer.MIN_VALUE, Integer.MAX_VALUE}) {
            CHECK.refusesIndex("passenger what " + what, Lines::busy, x -> x.passenger(1, what));
        }
    }

    /** Promise 9: "3 the bus, -1 if this one does not ride": bus 0 is none of them. */
    private static void noBusIsMinus1() {
        BusStage x = Lines.busy();
        CHECK.same("waits again", x.passenger(0, 3), -1);
        CHECK.same("has arrived", x.passenger(1, 3), -1);
        CHECK.same("rides in the first bus", x.passenger(2, 3), 0);
        CHECK.same("waits first", x.passenger(3, 3), -1);
        BusStage y = Lines.full();
        CHECK.same("rides in the last bus", y.passenger(9, 3), 5);
    }

    /** Promise 9: "6 the minute of the latest arrival, -1 without any". */
    private static void noArrivalIsMinus1() {
        BusStage x = Lines.busy();
        CHECK.same("waits first", x.passenger(3, 6), -1);
        CHECK.same("rides first", x.passenger(2, 6), -1);
        CHECK.same("waits again", x.passenger(0, 6), 6);
        BusStage y = arrivedMinutesAgo(20);
        y.change(0, 4);
        y.go(12);
        CHECK.same("rides again", y.passenger(0, 0), 1);
        CHECK.same("the first arrival yet", y.passenger(0, 6), 8);
        y.go(2);
        CHECK.same("the latest arrival", y.passenger(0, 6), 41);
    }

    /** Promise 9: "1 the stop where this one is, or got on the latest time". */
    private static void whereOneIsOrGotOn() {
        BusStage x = Lines.busy();
        CHECK.same("rides, behind the next stop too", x.passenger(2, 1), 1);
        CHECK.same("has arrived", x.passenger(1, 1), 3);
        CHECK.same("waits again where this one arrived", x.passenger(0, 1), 2);
    }
}
