/** A bus line and its queues. */
public final class BusStage {
    private static final int STOPS = 10;
    private static final int STOPS_A_STAGE = 2;
    private static final int MOST_STAGE = 9;
    private static final int FIRST_MINUTES = 2;
    private static final int MOST_STEP_MINUTES = 9;
    private static final int MOST_HOLD = 15;
    private static final int MOST_BUSES = 6;
    private static final int MOST_SEATS = 20;
    private static final int MOST_PASSENGERS = 50;
    private static final int MOST_MINUTES = 120;
    private static final int MOST_ARRIVAL_MINUTES = 200;
    private static final int TRANSFER_MINUTES = 20;
    private static final int BASE_FARE = 2;
    private static final int NONE = -1;

    private static final int WAITS = 0;
    private static final int RIDES = 1;
    private static final int ARRIVED = 2;

    private static final int COUNT_ANSWERS = 10;
    private static final int STOP_ANSWERS = 5;
    private static final int BUS_ANSWERS = 6;
    private static final int PASSENGER_ANSWERS = 7;
    private static final int FORESEE_ANSWERS = 4;

    private static final long DIGEST_START = 1039;
    private static final int DIGEST_FACTOR = 31;

    private final Line line;
    // What would be is tried out here, so that the line itself stays as it is and no call makes a new one.
    private final Line trial;

    public BusStage() {
        line = new Line();
        trial = new Line();
    }

    // ---- the line

    public int set(int stop, int minutes, int stage) throws IndexOutOfBoundsException, IllegalArgumentException {
        if (!isStop(stop)) {
            throw new IndexOutOfBoundsException("there is no such stop");
        }
        if (!isWithin(minutes, 1, MOST_STEP_MINUTES) || !isWithin(stage, 0, MOST_STAGE)) {
            throw new IllegalArgumentException("minutes are 1 to 9, a stage is 0 to 9");
        }
        Stop place = line.stopAt(stop);
        int before = 10 * place.minutes + place.stage;
        place.minutes = minutes;
        place.stage = stage;
        return before;
    }

    public int hold(int minutes) throws IllegalArgumentException {
        if (!isWithin(minutes, 0, MOST_HOLD)) {
            throw new IllegalArgumentException("a hold is 0 to 15");
        }
        int before = line.holdMinutes;
        line.holdMinutes = minutes;
        return before;
    }

    public int start(int stop, int seats)
            throws IndexOutOfBoundsException, IllegalArgumentException, IllegalStateException {
        if (!isStop(stop)) {
            throw new IndexOutOfBoundsException("there is no such stop");
        }
        if (!isWithin(seats, 1, MOST_SEATS)) {
            throw new IllegalArgumentException("seats are 1 to 20");
        }
        if (line.busCount >= MOST_BUSES) {
            throw new IllegalStateException("there are 6 buses");
        }
        return line.addBus(stop, seats);
    }

    // ---- passengers

    public int queue(int from, int to)
            throws IndexOutOfBoundsException, IllegalArgumentException, IllegalStateException {
        if (!isStop(from) || !isStop(to)) {
            throw new IndexOutOfBoundsException("there is no such stop");
        }
        if (from == to) {
            throw new IllegalArgumentException("both stops are the same");
        }
        if (line.passengerCount >= MOST_PASSENGERS) {
            throw new IllegalStateException("there are 50 passengers");
        }
        return line.addPassenger(from, to);
    }

    public boolean change(int passenger, int to) throws IndexOutOfBoundsException, IllegalStateException {
        if (!isPassenger(passenger) || !isStop(to)) {
            throw new IndexOutOfBoundsException("there is no such passenger or stop");
        }
        Passenger person = line.passengers[passenger];
        if (person.state != ARRIVED || person.at == to) {
            throw new IllegalStateException("this one has not arrived, or is there already");
        }
        person.waitAgain(to, line.minute);
        return person.hasTransfer;
    }

    public int fare(int from, int to) throws IndexOutOfBoundsException {
        if (!isStop(from) || !isStop(to)) {
            throw new IndexOutOfBoundsException("there is no such stop");
        }
        return line.fareBetween(from, to);
    }

    // ---- what is there

    public int bus(int bus, int what) throws IndexOutOfBoundsException {
        if (!isWithin(bus, 0, line.busCount - 1) || !isWithin(what, 0, BUS_ANSWERS - 1)) {
            throw new IndexOutOfBoundsException("there is no such bus or answer");
        }
        return line.buses[bus].tell(what);
    }

    public int passenger(int passenger, int what) throws IndexOutOfBoundsException {
        if (!isPassenger(passenger) || !isWithin(what, 0, PASSENGER_ANSWERS - 1)) {
            throw new IndexOutOfBoundsException("there is no such passenger or answer");
        }
        return line.passengers[passenger].tell(what);
    }

    public int stop(int stop, int what) throws IndexOutOfBoundsException {
        if (!isStop(stop) || !isWithin(what, 0, STOP_ANSWERS - 1)) {
            throw new IndexOutOfBoundsException("there is no such stop or answer");
        }
        return line.tellStop(stop, what);
    }

    public int count(int what) throws IndexOutOfBoundsException {
        if (!isWithin(what, 0, COUNT_ANSWERS - 1)) {
            throw new IndexOutOfBoundsException("there is no such answer");
        }
        return line.tellCount(what);
    }

    // ---- minutes

    public int go(int minutes) throws IllegalArgumentException {
        if (!isWithin(minutes, 1, MOST_MINUTES)) {
            throw new IllegalArgumentException("minutes are 1 to 120");
        }
        int before = line.passengersIn(ARRIVED);
        line.passMinutes(minutes);
        return line.passengersIn(ARRIVED) - before;
    }

    // ---- what would be

    public int arrives(int passenger) throws IndexOutOfBoundsException {
        if (!isPassenger(passenger)) {
            throw new IndexOutOfBoundsException("there is no such passenger");
        }
        trial.copyFrom(line);
        Passenger person = trial.passengers[passenger];
        for (int passed = 0; passed < MOST_ARRIVAL_MINUTES; passed++) {
            if (person.state == ARRIVED) {
                return passed;
            }
            trial.passMinute();
        }
        return person.state == ARRIVED ? MOST_ARRIVAL_MINUTES : NONE;
    }

    public int foresee(int minutes, int what) throws IllegalArgumentException, IndexOutOfBoundsException {
        if (!isWithin(minutes, 1, MOST_MINUTES)) {
            throw new IllegalArgumentException("minutes are 1 to 120");
        }
        if (!isWithin(what, 0, FORESEE_ANSWERS - 1)) {
            throw new IndexOutOfBoundsException("there is no such answer");
        }
        trial.copyFrom(line);
        trial.passMinutes(minutes);
        switch (what) {
            case 0:
                return trial.passengersIn(ARRIVED) - line.passengersIn(ARRIVED);
            case 1:
                return trial.allPaid() - line.allPaid();
            case 2:
                return trial.allWaited() - line.allWaited();
            default:
                return trial.bunchedPairs();
        }
    }

    public int advise(int minutes) throws IllegalArgumentException {
        if (!isWithin(minutes, 1, MOST_MINUTES)) {
            throw new IllegalArgumentException("minutes are 1 to 120");
        }
        int best = 0;
        int fewest = 0;
        for (int tried = 0; tried <= MOST_HOLD; tried++) {
            trial.copyFrom(line);
            trial.holdMinutes = tried;
            trial.passMinutes(minutes);
            int waited = trial.allWaited();
            if (tried == 0 || waited < fewest) {
                best = tried;
                fewest = waited;
            }
        }
        return best;
    }

    public double mean() {
        int passengers = line.passengerCount;
        return passengers == 0 ? 0.0 : (double) line.allWaited() / passengers;
    }

    public long digest() {
        long sum = DIGEST_START;
        for (int what = 0; what < COUNT_ANSWERS; what++) {
            sum = sum * DIGEST_FACTOR + line.tellCount(what);
        }
        for (int number = 0; number < STOPS; number++) {
            for (int what = 0; what < STOP_ANSWERS; what++) {
                sum = sum * DIGEST_FACTOR + line.tellStop(number, what);
            }
        }
        for (int number = 0; number < line.busCount; number++) {
            for (int what = 0; what < BUS_ANSWERS; what++) {
                sum = sum * DIGEST_FACTOR + line.buses[number].tell(what);
            }
        }
        for (int number = 0; number < line.passengerCount; number++) {
            for (int what = 0; what < PASSENGER_ANSWERS; what++) {
                sum = sum * DIGEST_FACTOR + line.passengers[number].tell(what);
            }
        }
        return sum;
    }

    private static boolean isWithin(int value, int least, int most) {
        return value >= least && value <= most;
    }

    private static boolean isStop(int number) {
        return isWithin(number, 0, STOPS - 1);
    }

    private boolean isPassenger(int number) {
        return isWithin(number, 0, line.passengerCount - 1);
    }

    private static final class Stop {
        int minutes;
        int stage;
        int lastLeft;

        Stop(int stage) {
            this.minutes = FIRST_MINUTES;
            this.stage = stage;
            this.lastLeft = NONE;
        }

        void copyFrom(Stop other) {
            minutes = other.minutes;
            stage = other.stage;
            lastLeft = other.lastLeft;
        }

        boolean letsLeave(int minute, int holdMinutes) {
            return holdMinutes == 0 || lastLeft == NONE || minute - lastLeft >= holdMinutes;
        }
    }

    private static final class Bus {
        final int number;
        int at;
        boolean goes;
        int left;
        int seats;
        int riders;
        int takings;

        Bus(int number) {
            this.number = number;
        }

        void copyFrom(Bus other) {
            at = other.at;
            goes = other.goes;
            left = other.left;
            seats = other.seats;
            riders = other.riders;
            takings = other.takings;
        }

        boolean isBunchedWith(Bus other) {
            return at == other.at && goes == other.goes;
        }

        int tell(int what) {
            switch (what) {
                case 0:
                    return at;
                case 1:
                    return goes ? 1 : 0;
                case 2:
                    return left;
                case 3:
                    return seats;
                case 4:
                    return riders;
                default:
                    return takings;
            }
        }
    }

    private static final class Passenger {
        int state;
        int at;
        int to;
        int busNumber;
        int paid;
        int waited;
        int lastArrival;
        boolean hasTransfer;

        Passenger() {
            busNumber = NONE;
            lastArrival = NONE;
        }

        void copyFrom(Passenger other) {
            state = other.state;
            at = other.at;
            to = other.to;
            busNumber = other.busNumber;
            paid = other.paid;
            waited = other.waited;
            lastArrival = other.lastArrival;
            hasTransfer = other.hasTransfer;
        }

        boolean waitsAt(int number) {
            return state == WAITS && at == number;
        }

        boolean leavesAt(int number, Bus vehicle) {
            return state == RIDES && busNumber == vehicle.number && to == number;
        }

        // The transfer is settled here: how long the waiting then is does not count.
        void waitAgain(int nextTo, int minute) {
            hasTransfer = minute - lastArrival <= TRANSFER_MINUTES;
            state = WAITS;
            to = nextTo;
        }

        int getOn(Bus vehicle, int fullFare) {
            int price = hasTransfer ? fullFare / 2 : fullFare;
            hasTransfer = false;
            state = RIDES;
            busNumber = vehicle.number;
            paid += price;
            return price;
        }

        void getOff(int minute) {
            state = ARRIVED;
            at = to;
            busNumber = NONE;
            lastArrival = minute;
        }

        int tell(int what) {
            switch (what) {
                case 0:
                    return state;
                case 1:
                    return at;
                case 2:
                    return to;
                case 3:
                    return busNumber;
                case 4:
                    return paid;
                case 5:
                    return waited;
                default:
                    return lastArrival;
            }
        }
    }

    private static final class Line {
        final Stop[] stops = new Stop[STOPS];
        final Bus[] buses = new Bus[MOST_BUSES];
        final Passenger[] passengers = new Passenger[MOST_PASSENGERS];
        int busCount;
        int passengerCount;
        int minute;
        int holdMinutes;

        Line() {
            for (int number = 0; number < STOPS; number++) {
                stops[number] = new Stop(number / STOPS_A_STAGE);
            }
            for (int number = 0; number < MOST_BUSES; number++) {
                buses[number] = new Bus(number);
            }
            for (int number = 0; number < MOST_PASSENGERS; number++) {
                passengers[number] = new Passenger();
            }
        }

        void copyFrom(Line other) {
            for (int number = 0; number < STOPS; number++) {
                stops[number].copyFrom(other.stops[number]);
            }
            for (int number = 0; number < other.busCount; number++) {
                buses[number].copyFrom(other.buses[number]);
            }
            for (int number = 0; number < other.passengerCount; number++) {
                passengers[number].copyFrom(other.passengers[number]);
            }
            busCount = other.busCount;
            passengerCount = other.passengerCount;
            minute = other.minute;
            holdMinutes = other.holdMinutes;
        }

        // The line is round, so every whole number names one of its stops.
        Stop stopAt(int number) {
            int place = number % STOPS;
            return stops[place < 0 ? place + STOPS : place];
        }

        // The caller has looked whether there is room for one more.
        int addBus(int at, int seats) {
            Bus vehicle = buses[busCount];
            vehicle.at = at;
            vehicle.left = 1;
            vehicle.seats = seats;
            busCount++;
            return vehicle.number;
        }

        // The caller has looked whether there is room for one more.
        int addPassenger(int from, int to) {
            Passenger person = passengers[passengerCount];
            person.at = from;
            person.to = to;
            passengerCount++;
            return passengerCount - 1;
        }

        int fareBetween(int from, int to) {
            if (from == to) {
                return 0;
            }
            int price = BASE_FARE;
            int last = from < to ? to : to + STOPS;
            for (int at = from; at < last; at++) {
                if (stopAt(at).stage != stopAt(at + 1).stage) {
                    price++;
                }
            }
            return price;
        }

        void passMinutes(int minutes) {
            for (int passed = 0; passed < minutes; passed++) {
                passMinute();
            }
        }

        void passMinute() {
            for (int number = 0; number < busCount; number++) {
                Bus vehicle = buses[number];
                if (vehicle.goes) {
                    driveOn(vehicle);
                } else {
                    standOn(vehicle);
                }
            }
            for (int number = 0; number < passengerCount; number++) {
                if (passengers[number].state == WAITS) {
                    passengers[number].waited++;
                }
            }
            minute++;
        }

        void driveOn(Bus vehicle) {
            vehicle.left--;
            if (vehicle.left > 0) {
                return;
            }
            vehicle.at = (vehicle.at + 1) % STOPS;
            vehicle.goes = false;
            int off = letOff(vehicle);
            int on = letOn(vehicle);
            vehicle.left = 1 + on / 2 + off / 4;
        }

        void standOn(Bus vehicle) {
            if (vehicle.left > 0) {
                vehicle.left--;
            }
            Stop place = stopAt(vehicle.at);
            if (vehicle.left == 0 && place.letsLeave(minute, holdMinutes)) {
                place.lastLeft = minute;
                vehicle.goes = true;
                vehicle.left = place.minutes;
            }
        }

        int letOff(Bus vehicle) {
            int off = 0;
            for (int number = 0; number < passengerCount; number++) {
                if (passengers[number].leavesAt(vehicle.at, vehicle)) {
                    passengers[number].getOff(minute);
                    off++;
                }
            }
            vehicle.riders -= off;
            return off;
        }

        int letOn(Bus vehicle) {
            int on = 0;
            for (int number = 0; number < passengerCount && vehicle.riders < vehicle.seats; number++) {
                Passenger person = passengers[number];
                if (person.waitsAt(vehicle.at)) {
                    vehicle.takings += person.getOn(vehicle, fareBetween(person.at, person.to));
                    vehicle.riders++;
                    on++;
                }
            }
            return on;
        }

        int tellStop(int number, int what) {
            switch (what) {
                case 0:
                    return stopAt(number).minutes;
                case 1:
                    return stopAt(number).stage;
                case 2:
                    return waitingAt(number);
                case 3:
                    return standingAt(number);
                default:
                    return stopAt(number).lastLeft;
            }
        }

        int tellCount(int what) {
            switch (what) {
                case 0:
                    return minute;
                case 1:
                    return holdMinutes;
                case 2:
                    return busCount;
                case 3:
                    return passengerCount;
                case 4:
                    return passengersIn(WAITS);
                case 5:
                    return passengersIn(RIDES);
                case 6:
                    return passengersIn(ARRIVED);
                case 7:
                    return allPaid();
                case 8:
                    return allWaited();
                default:
                    return bunchedPairs();
            }
        }

        int waitingAt(int place) {
            int found = 0;
            for (int number = 0; number < passengerCount; number++) {
                if (passengers[number].waitsAt(place)) {
                    found++;
                }
            }
            return found;
        }

        int standingAt(int place) {
            int found = 0;
            for (int number = 0; number < busCount; number++) {
                if (!buses[number].goes && buses[number].at == place) {
                    found++;
                }
            }
            return found;
        }

        int passengersIn(int state) {
            int found = 0;
            for (int number = 0; number < passengerCount; number++) {
                if (passengers[number].state == state) {
                    found++;
                }
            }
            return found;
        }

        int allPaid() {
            int sum = 0;
            for (int number = 0; number < passengerCount; number++) {
                sum += passengers[number].paid;
            }
            return sum;
        }

        int allWaited() {
            int sum = 0;
            for (int number = 0; number < passengerCount; number++) {
                sum += passengers[number].waited;
            }
            return sum;
        }

        int bunchedPairs() {
            int pairs = 0;
            for (int one = 0; one < busCount; one++) {
                for (int other = one + 1; other < busCount; other++) {
                    if (buses[one].isBunchedWith(buses[other])) {
                        pairs++;
                    }
                }
            }
            return pairs;
        }
    }
}
