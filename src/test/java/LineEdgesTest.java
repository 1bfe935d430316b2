/** The boundary cases of the line and its buses: promises 1, 2, 3, 4 and 7, a test for each sentence. */
public final class LineEdgesTest {
    private static final Check CHECK = new Check();

    public static void main(String[] args) {
        theLinesTestsStartFromAreAsTold();
        aNewLineHasNoBuses();
        aNewLineHasNoPassengers();
        aNewLineIsInTheMinute0();
        aNewLinesStops();
        aNewLinesHold();
        setTakesTheFirstAndTheLastStop();
        setRefusesAStopBeyond();
        setTakesTheLeastAndTheMostMinutes();
        setRefusesMinutesBeyond();
        setTakesTheLeastAndTheGreatestStage();
        setRefusesAStageBeyond();
        setNamesTheStopFirst();
        setTellsWhatWasBefore();
        setLeavesBusesThatGo();
        holdTakesTheLeastAndTheMostMinutes();
        holdRefusesMinutesBeyond();
        startTakesTheFirstAndTheLastStop();
        startRefusesAStopBeyond();
        startTakesTheFewestAndTheMostSeats();
        startRefusesSeatsBeyond();
        startTakesTheSixthAndRefusesTheSeventh();
        startNamesTheFirstThatApplies();
        aRefusedStartTakesNoNumber();
        fareTakesTheFirstAndTheLastStop();
        fareRefusesAStopBeyond();
        fareToItselfIs0();
        theLeastAndTheGreatestFare();
        fareGoesRoundBehind9();
        fareCountsNoStepBeyondTheWay();
        CHECK.finish();
    }

    private static void theLinesTestsStartFromAreAsTold() {
        BusStage x = Lines.busy();
        CHECK.same("busy: bus 0 stands", x.bus(0, 1) * 10 + x.bus(0, 0), 3);
        CHECK.same("busy: bus 1 is held", x.bus(1, 1) * 10 + x.bus(1, 2), 0);
        CHECK.same("busy: bus 2 goes", x.bus(2, 1) * 10 + x.bus(2, 0), 19);
        CHECK.same("busy: those who wait, ride, have arrived", x.count(4) * 100 + x.count(5) * 10 + x.count(6), 211);
        BusStage y = Lines.full();
        CHECK.same("full: buses and passengers", y.count(2) * 100 + y.count(3), 650);
        CHECK.same("full: those who wait, ride, have arrived", y.count(4) * 100 + y.count(5) * 10 + y.count(6), 4055);
    }

    /** Promise 1: "Creates a line without buses". */
    private static void aNewLineHasNoBuses() {
        CHECK.same("new: buses", new BusStage().count(2), 0);
        CHECK.refusesIndex("new: bus(0, 0)", BusStage::new, x -> x.bus(0, 0));
        CHECK.same("new: the first bus", new BusStage().start(0, 1), 0);
        CHECK.same("new: pairs", new BusStage().count(9), 0);
    }

    /** Promise 1: "and passengers". */
    private static void aNewLineHasNoPassengers() {
        CHECK.same("new: passengers", new BusStage().count(3), 0);
        CHECK.refusesIndex("new: passenger(0, 0)", BusStage::new, x -> x.passenger(0, 0));
        CHECK.refusesIndex("new: arrives(0)", BusStage::new, x -> x.arrives(0));
        CHECK.refusesIndex("new: change(0, 0)", BusStage::new, x -> x.change(0, 0));
        CHECK.same("new: the first passenger", new BusStage().queue(0, 1), 0);
    }

    /** Promise 1: "in the minute 0". */
    private static void aNewLineIsInTheMinute0() {
        BusStage x = new BusStage();
        CHECK.same("new: the minute", x.count(0), 0);
        x.start(0, 1);
        x.go(1);
        CHECK.same("the first minute that goes by is 0", x.stop(0, 4), 0);
        CHECK.same("then it is 1", x.count(0), 1);
    }

    /** "1 to 9 minutes (2, at first)"; "a stage, 0 to 9 (its number / 2, at first)", cut. */
    private static void aNewLinesStops() {
        int[] stages = {0, 0, 1, 1, 2, 2, 3, 3, 4, 4};
        for (int stop = 0; stop < 10; stop++) {
            CHECK.same("new: minutes from " + stop, new BusStage().stop(stop, 0), 2);
            CHECK.same("new: stage of " + stop, new BusStage().stop(stop, 1), stages[stop]);
        }
    }

    /** "A hold, 0 to 15 minutes (0, at first)". */
    private static void aNewLinesHold() {
        CHECK.same("new: hold", new BusStage().count(1), 0);
        CHECK.same("new: the hold before the first one", new BusStage().hold(3), 0);
    }

    private static void setTakesTheFirstAndTheLastStop() {
        for (int stop : new int[] {0, 9}) {
            BusStage x = new BusStage();
            CHECK.same("set stop " + stop, x.set(stop, 5, 7), 20 + stop / 2);
            for (int other = 0; other < 10; other++) {
                CHECK.same("minutes of " + other, x.stop(other, 0), other == stop ? 5 : 2);
                CHECK.same("stage of " + other, x.stop(other, 1), other == stop ? 7 : other / 2);
            }
        }
    }

    /** Promise 2: "IndexOutOfBoundsException if stop is not 0 to 9". */
    private static void setRefusesAStopBeyond() {
        for (int stop : new int[] {-1, 10, Integer.MIN_VALUE, Integer.MAX_VALUE}) {
            CHECK.refusesIndex("set stop " + stop, Lines::busy, x -> x.set(stop, 5, 7));
        }
    }

    private static void setTakesTheLeastAndTheMostMinutes() {
        for (int minutes : new int[] {1, 9}) {
            BusStage x = new BusStage();
            CHECK.same("set minutes " + minutes, x.set(3, minutes, 0), 21);
            CHECK.same("minutes " + minutes, x.stop(3, 0), minutes);
            x.start(3, 1);
            x.go(minutes);
            CHECK.same(minutes + ": a minute less, it still goes", x.bus(0, 1), 1);
            x.go(1);
            CHECK.same(minutes + ": it has come", x.bus(0, 0), 4);
        }
    }

    /** Promise 2: "IllegalArgumentException if minutes is not 1 to 9". */
    private static void setRefusesMinutesBeyond() {
        for (int minutes : new int[] {0, 10, -1, Integer.MIN_VALUE, Integer.MAX_VALUE}) {
            CHECK.refusesArgument("set minutes " + minutes, Lines::busy, x -> x.set(3, minutes, 5));
        }
    }

    private static void setTakesTheLeastAndTheGreatestStage() {
        for (int stage : new int[] {0, 9}) {
            BusStage x = new BusStage();
            CHECK.same("set stage " + stage, x.set(3, 4, stage), 21);
            CHECK.same("stage " + stage, x.stop(3, 1), stage);
        }
    }

    /** Promise 2: "or stage is not 0 to 9". */
    private static void setRefusesAStageBeyond() {
        for (int stage : new int[] {-1, 10, Integer.MIN_VALUE, Integer.MAX_VALUE}) {
            CHECK.refusesArgument("set stage " + stage, Lines::busy, x -> x.set(3, 5, stage));
        }
    }

    /** "If several exceptions apply, the one that is named first is thrown." */
    private static void setNamesTheStopFirst() {
        CHECK.refusesIndex("set stop and minutes", Lines::busy, x -> x.set(10, 0, 0));
        CHECK.refusesIndex("set stop and stage", Lines::busy, x -> x.set(-1, 1, 10));
        CHECK.refusesIndex("set all three", Lines::busy, x -> x.set(10, 10, -1));
        CHECK.refusesArgument("set minutes and stage", Lines::busy, x -> x.set(3, 0, 10));
    }

    /** Promise 2: "10 * minutes + stage, as they were before", from the least to the greatest. */
    private static void setTellsWhatWasBefore() {
        BusStage x = new BusStage();
        x.set(0, 1, 0);
        CHECK.same("the least", x.set(0, 9, 9), 10);
        CHECK.same("the greatest", x.set(0, 9, 9), 99);
        CHECK.same("the same again", x.set(0, 1, 0), 99);
    }

    /** Promise 2: "buses that go already go on as they are". */
    private static void setLeavesBusesThatGo() {
        BusStage longer = goingFrom0(2);
        longer.set(0, 9, 0);
        CHECK.same("longer: minutes left", longer.bus(0, 2), 2);
        longer.go(2);
        CHECK.same("longer: it has come", longer.bus(0, 0), 1);
        BusStage shorter = goingFrom0(9);
        shorter.set(0, 1, 0);
        CHECK.same("shorter: minutes left", shorter.bus(0, 2), 9);
        shorter.go(8);
        CHECK.same("shorter: it still goes", shorter.bus(0, 1), 1);
        shorter.go(1);
        CHECK.same("shorter: it has come", shorter.bus(0, 0), 1);
        BusStage stands = new BusStage();
        stands.start(0, 1);
        stands.set(0, 9, 0);
        stands.go(1);
        CHECK.same("one that stands has the new minutes to go", stands.bus(0, 2), 9);
    }

    private static BusStage goingFrom0(int minutes) {
        BusStage x = new BusStage();
        x.set(0, minutes, 0);
        x.start(0, 1);
        x.go(1);
        return x;
    }

    private static void holdTakesTheLeastAndTheMostMinutes() {
        BusStage x = Lines.busy();
        CHECK.same("hold(15)", x.hold(15), 6);
        CHECK.same("the hold is 15", x.count(1), 15);
        CHECK.same("hold(0)", x.hold(0), 15);
        CHECK.same("the hold is 0", x.count(1), 0);
        CHECK.same("hold(0) again", x.hold(0), 0);
    }

    /** Promise 3: "IllegalArgumentException if minutes is not 0 to 15". */
    private static void holdRefusesMinutesBeyond() {
        for (int minutes : new int[] {-1, 16, Integer.MIN_VALUE, Integer.MAX_VALUE}) {
            CHECK.refusesArgument("hold " + minutes, Lines::busy, x -> x.hold(minutes));
        }
    }

    private static void startTakesTheFirstAndTheLastStop() {
        for (int stop : new int[] {0, 9}) {
            BusStage x = new BusStage();
            CHECK.same("start at " + stop, x.start(stop, 5), 0);
            CHECK.same("it is at " + stop, x.bus(0, 0), stop);
            CHECK.same("it stands there", x.stop(stop, 3), 1);
            CHECK.same("with a minute left", x.bus(0, 2), 1);
        }
    }

    /** Promise 4: "IndexOutOfBoundsException if stop is not 0 to 9". */
    private static void startRefusesAStopBeyond() {
        for (int stop : new int[] {-1, 10, Integer.MIN_VALUE, Integer.MAX_VALUE}) {
            CHECK.refusesIndex("start at " + stop, Lines::busy, x -> x.start(stop, 5));
        }
    }

    private static void startTakesTheFewestAndTheMostSeats() {
        for (int seats : new int[] {1, 20}) {
            BusStage x = new BusStage();
            CHECK.same("start with seats " + seats, x.start(0, seats), 0);
            CHECK.same("seats " + seats, x.bus(0, 3), seats);
        }
    }

    /** Promise 4: "IllegalArgumentException if seats is not 1 to 20". */
    private static void startRefusesSeatsBeyond() {
        for (int seats : new int[] {0, 21, -1, Integer.MIN_VALUE, Integer.MAX_VALUE}) {
            CHECK.refusesArgument("start with seats " + seats, Lines::busy, x -> x.start(0, seats));
        }
    }

    /** Promise 4: "IllegalStateException if there are 6"; "numbered from 0 in the order of their coming". */
    private static void startTakesTheSixthAndRefusesTheSeventh() {
        BusStage x = Lines.withBuses(5);
        CHECK.same("the sixth bus", x.start(9, 20), 5);
        CHECK.same("buses", x.count(2), 6);
        CHECK.same("seats of the sixth", x.bus(5, 3), 20);
        CHECK.refusesState("the seventh bus", () -> Lines.withBuses(6), y -> y.start(9, 20));
        CHECK.refusesState("the seventh bus later", Lines::full, y -> y.start(0, 1));
    }

    /** "If several exceptions apply, the one that is named first is thrown." */
    private static void startNamesTheFirstThatApplies() {
        CHECK.refusesIndex("start: stop and seats", Lines::busy, x -> x.start(10, 0));
        CHECK.refusesIndex("start: stop and 6 buses", Lines::full, x -> x.start(-1, 5));
        CHECK.refusesIndex("start: all three", Lines::full, x -> x.start(10, 21));
        CHECK.refusesArgument("start: seats and 6 buses", Lines::full, x -> x.start(0, 0));
        CHECK.refusesArgument("start: too many seats and 6 buses", Lines::full, x -> x.start(0, 21));
    }

    /** "A method that throws an exception changes nothing": nor the number of the next one. */
    private static void aRefusedStartTakesNoNumber() {
        BusStage x = Lines.withBuses(5);
        try {
            x.start(0, 21);
            CHECK.holds("start(0, 21) is refused", false);
        } catch (IllegalArgumentException refused) {
            CHECK.same("the number behind a refused start", x.start(0, 20), 5);
        }
    }

    private static void fareTakesTheFirstAndTheLastStop() {
        BusStage x = new BusStage();
        CHECK.same("fare(0, 9)", x.fare(0, 9), 6);
        CHECK.same("fare(9, 0)", x.fare(9, 0), 3);
    }

    /** Promise 7: "IndexOutOfBoundsException if from or to is not 0 to 9". */
    private static void fareRefusesAStopBeyond() {
        for (int stop : new int[] {-1, 10, Integer.MIN_VALUE, Integer.MAX_VALUE}) {
            CHECK.refusesIndex("fare from " + stop, Lines::busy, x -> x.fare(stop, 0));
            CHECK.refusesIndex("fare to " + stop, Lines::busy, x -> x.fare(0, stop));
            CHECK.refusesIndex("fare from and to " + stop, Lines::busy, x -> x.fare(stop, stop));
        }
    }

    /** Promise 7: "0 from a stop to itself". */
    private static void fareToItselfIs0() {
        BusStage x = allStagesDiffer();
        for (int stop = 0; stop < 10; stop++) {
            CHECK.same("fare from " + stop + " to itself", x.fare(stop, stop), 0);
        }
    }

    /** "2, and 1 for each step along the line .. between two stops of different stages": of at most nine steps. */
    private static void theLeastAndTheGreatestFare() {
        BusStage x = allStagesDiffer();
        BusStage y = new BusStage();
        for (int stop = 0; stop < 10; stop++) {
            y.set(stop, 2, 6);
        }
        for (int from = 0; from < 10; from++) {
            CHECK.same("the greatest fare from " + from, x.fare(from, (from + 9) % 10), 11);
            CHECK.same("the least fare from " + from, y.fare(from, (from + 9) % 10), 2);
        }
    }

    /** "round: behind 9 comes 0". */
    private static void fareGoesRoundBehind9() {
        BusStage x = new BusStage();
        CHECK.same("9 to 0 is a step of different stages", x.fare(9, 0), 3);
        x.set(0, 2, 4);
        CHECK.same("9 to 0 is a step of one stage", x.fare(9, 0), 2);
        CHECK.same("8 to 1, over both ends", x.fare(8, 1), 3);
        CHECK.same("1 to 0, nearly round", x.fare(1, 0), 6);
    }

    /** "from the one to the other one": neither the step ahead of the one nor the step behind the other one. */
    private static void fareCountsNoStepBeyondTheWay() {
        BusStage x = new BusStage();
        CHECK.same("0 to 1 in one stage, others around", x.fare(0, 1), 2);
        CHECK.same("8 to 9 in one stage, others around", x.fare(8, 9), 2);
        CHECK.same("1 to 2, one change", x.fare(1, 2), 3);
    }

    private static BusStage allStagesDiffer() {
        BusStage x = new BusStage();
        for (int stop = 0; stop < 10; stop++) {
            x.set(stop, 2, stop);
        }
        return x;
    }
}
