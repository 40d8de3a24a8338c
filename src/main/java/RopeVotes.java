/** A ropeway whose towers vote on how fast the rope may run. */
public final class RopeVotes {
    public static final int NONE = -1;
    public static final int STOP = 0, SLOW = 1, FULL = 2;

    private static final int LINE_PARTS = 1200;
    private static final int TOP = 600;
    private static final int STATION_PARTS = 20;
    private static final int SLOW_PARTS = 10;
    private static final int FULL_PARTS = 30;
    private static final int MOST_CARS = 16;
    private static final int LEAST_GAP = 60;

    private static final int TOWERS = 7;
    private static final int MOST_WIND = 150;
    private static final int FIRST_SLOW_LIMIT = 40;
    private static final int FIRST_STOP_LIMIT = 70;
    private static final int FRESH_MINUTES = 3;
    private static final int QUORUM = 4;

    private static final int LAST_TIME = 1000;
    private static final int MOST_MINUTES = 60;

    private static final int MOST_TICKETS = 60;
    private static final int ROOM = 8;
    private static final int MOST_FARE = 1000;
    private static final int UNPAID_MINUTES = 5;
    private static final int REFUND_DIVISOR = 10;

    private final Loop loop = new Loop();
    private final Towers towers = new Towers();
    private final Post post = new Post();
    private final Control control = new Control();
    private final Tickets tickets = new Tickets();
    private final int[] record = new int[LAST_TIME + 1];
    private int now = 0;
    private int turns = 0;
    private boolean isHeldNow = false;

    public RopeVotes() {
    }

    // ---- cars

    public int putOn() throws IllegalStateException {
        if (!loop.canStart()) {
            throw new IllegalStateException("no car is left, or the gap is too small");
        }
        return loop.start(turns);
    }

    public int takeOff(int car) throws IndexOutOfBoundsException, IllegalStateException {
        if (!loop.has(car)) {
            throw new IndexOutOfBoundsException("no such car");
        }
        if (!isInBottom(loop.place[car]) || tickets.peopleIn(car) > 0) {
            throw new IllegalStateException("not in the bottom station, or not empty");
        }
        loop.isOn[car] = false;
        return turns - loop.turnsAtStart[car];
    }

    public int cars() {
        return loop.countOn();
    }

    public int place(int car) throws IndexOutOfBoundsException {
        if (!loop.has(car)) {
            throw new IndexOutOfBoundsException("no such car");
        }
        return loop.place[car];
    }

    public int placeByTurns(int car) throws IndexOutOfBoundsException {
        if (!loop.has(car)) {
            throw new IndexOutOfBoundsException("no such car");
        }
        return (turns - loop.turnsAtStart[car]) % LINE_PARTS;
    }

    public int leastGap() {
        return loop.leastGapOfPairs();
    }

    // ---- towers and votes

    public int wind(int tower, int wind) throws IndexOutOfBoundsException, IllegalArgumentException {
        if (!isTower(tower)) {
            throw new IndexOutOfBoundsException("no such tower");
        }
        if (wind < 0 || wind > MOST_WIND) {
            throw new IllegalArgumentException("wind is out of range");
        }
        towers.wind[tower] = wind;
        return towers.ballotOf(tower);
    }

    public int setLimits(int tower, int slow, int stop) throws IndexOutOfBoundsException, IllegalArgumentException {
        if (!isTower(tower)) {
            throw new IndexOutOfBoundsException("no such tower");
        }
        if (slow < 0 || slow > MOST_WIND || stop < slow || stop > MOST_WIND) {
            throw new IllegalArgumentException("a limit is out of range");
        }
        towers.slowLimit[tower] = slow;
        towers.stopLimit[tower] = stop;
        return towers.ballotOf(tower);
    }

    public int cut(int tower, boolean isCut) throws IndexOutOfBoundsException {
        if (!isTower(tower)) {
            throw new IndexOutOfBoundsException("no such tower");
        }
        towers.isCutOff[tower] = isCut;
        return towers.countCutOff();
    }

    public int vote(int tower) throws IndexOutOfBoundsException {
        if (!isTower(tower)) {
            throw new IndexOutOfBoundsException("no such tower");
        }
        return control.ballot[tower];
    }

    public int voteTime(int tower) throws IndexOutOfBoundsException {
        if (!isTower(tower)) {
            throw new IndexOutOfBoundsException("no such tower");
        }
        return control.madeAt[tower];
    }

    public int fresh() {
        return control.freshSet(now);
    }

    public int onTheWay() {
        return post.countLater(now);
    }

    public int wouldDecide() {
        return isHeldNow ? STOP : control.speedByVotes(now);
    }

    // ---- the rope

    public boolean hold(boolean isHeld) {
        boolean wasHeld = isHeldNow;
        isHeldNow = isHeld;
        return wasHeld;
    }

    public int pass(int minutes) throws IllegalArgumentException, IllegalStateException {
        if (minutes < 1 || minutes > MOST_MINUTES) {
            throw new IllegalArgumentException("minutes is out of range");
        }
        if (now + minutes > LAST_TIME) {
            throw new IllegalStateException("the time would be above 1000");
        }
        int turnsBefore = turns;
        for (int i = 0; i < minutes; i++) {
            passMinute();
        }
        return turns - turnsBefore;
    }

    public int time() {
        return now;
    }

    public int moved() {
        return turns;
    }

    public int decided(int minute) throws IndexOutOfBoundsException {
        if (minute < 1 || minute > now || minute >= record.length) {
            throw new IndexOutOfBoundsException("no such minute");
        }
        return record[minute];
    }

    public int minutes(int speed) throws IllegalArgumentException {
        if (speed < STOP || speed > FULL) {
            throw new IllegalArgumentException("no such speed");
        }
        int count = 0;
        for (int minute = 1; minute <= now && minute < record.length; minute++) {
            if (record[minute] % 10 == speed) {
                count++;
            }
        }
        return count;
    }

    // ---- tickets

    public int board(int car, int people, int fare)
            throws IndexOutOfBoundsException, IllegalArgumentException, IllegalStateException {
        if (!loop.has(car)) {
            throw new IndexOutOfBoundsException("no such car");
        }
        if (people < 1 || people > ROOM || fare < 0 || fare > MOST_FARE) {
            throw new IllegalArgumentException("people or fare is out of range");
        }
        int place = loop.place[car];
        if (!isInStation(place) || tickets.peopleIn(car) + people > ROOM || !tickets.isLeft()) {
            throw new IllegalStateException("in no station, no room, or no ticket is left");
        }
        int goalTurns = turns + (isInBottom(place) ? TOP : LINE_PARTS) - place;
        return tickets.sell(car, people, fare, goalTurns);
    }

    public int people(int car) throws IndexOutOfBoundsException {
        if (!loop.has(car)) {
            throw new IndexOutOfBoundsException("no such car");
        }
        return tickets.peopleIn(car);
    }

    public int arrived(int ticket) throws IndexOutOfBoundsException {
        if (!tickets.has(ticket)) {
            throw new IndexOutOfBoundsException("no such ticket");
        }
        return tickets.arrivedAt[ticket];
    }

    public int hung(int ticket) throws IndexOutOfBoundsException {
        if (!tickets.has(ticket)) {
            throw new IndexOutOfBoundsException("no such ticket");
        }
        return tickets.minutesHung[ticket];
    }

    public int refund(int ticket) throws IndexOutOfBoundsException {
        if (!tickets.has(ticket)) {
            throw new IndexOutOfBoundsException("no such ticket");
        }
        return tickets.refundOf(ticket);
    }

    public int refunds() {
        return tickets.sumOfRefunds();
    }

    // ---- how a minute passes

    private void passMinute() {
        now++;
        makeVotes();
        post.deliver(now, control);
        int speed = wouldDecide();
        if (now < record.length) {
            record[now] = 10 * Integer.bitCount(control.freshSet(now)) + speed;
        }
        int parts = partsAt(speed);
        turns += parts;
        loop.move(parts);
        tickets.passMinute(now, turns, speed, loop);
    }

    private void makeVotes() {
        for (int tower = 0; tower < TOWERS; tower++) {
            post.send(tower, towers.ballotOf(tower), now, towers.delayOf(tower));
        }
    }

    private static int partsAt(int speed) {
        if (speed == FULL) {
            return FULL_PARTS;
        }
        return speed == SLOW ? SLOW_PARTS : 0;
    }

    private static boolean isTower(int tower) {
        return tower >= 0 && tower < TOWERS;
    }

    private static boolean isInBottom(int place) {
        return place >= 0 && place < STATION_PARTS;
    }

    private static boolean isInStation(int place) {
        return isInBottom(place) || place >= TOP && place < TOP + STATION_PARTS;
    }

    private static int gapBetween(int place, int otherPlace) {
        int way = Math.abs(place - otherPlace);
        return Math.min(way, LINE_PARTS - way);
    }

    /** The loop with its cars. */
    private static final class Loop {
        final int[] place = new int[MOST_CARS];
        final int[] turnsAtStart = new int[MOST_CARS];
        final boolean[] isOn = new boolean[MOST_CARS];
        int started = 0;

        boolean has(int car) {
            return car >= 0 && car < MOST_CARS && isOn[car];
        }

        boolean canStart() {
            if (started >= MOST_CARS) {
                return false;
            }
            for (int car = 0; car < MOST_CARS; car++) {
                if (isOn[car] && gapBetween(place[car], 0) < LEAST_GAP) {
                    return false;
                }
            }
            return true;
        }

        /** To be called only when canStart() says so. */
        int start(int turns) {
            int car = started;
            if (car < MOST_CARS) {
                started++;
                place[car] = 0;
                turnsAtStart[car] = turns;
                isOn[car] = true;
            }
            return car;
        }

        int countOn() {
            int count = 0;
            for (int car = 0; car < MOST_CARS; car++) {
                if (isOn[car]) {
                    count++;
                }
            }
            return count;
        }

        int leastGapOfPairs() {
            int least = NONE;
            for (int car = 0; car < MOST_CARS; car++) {
                for (int other = 0; other < car; other++) {
                    if (isOn[car] && isOn[other]) {
                        int gap = gapBetween(place[car], place[other]);
                        least = least == NONE ? gap : Math.min(least, gap);
                    }
                }
            }
            return least;
        }

        void move(int parts) {
            for (int car = 0; car < MOST_CARS; car++) {
                if (isOn[car]) {
                    place[car] = (place[car] + parts) % LINE_PARTS;
                }
            }
        }

        boolean isOutOfStations(int car) {
            return has(car) && !isInStation(place[car]);
        }
    }

    /** The towers, each with what it votes by and whether it is cut off. */
    private static final class Towers {
        final int[] wind = new int[TOWERS];
        final int[] slowLimit = new int[TOWERS];
        final int[] stopLimit = new int[TOWERS];
        final boolean[] isCutOff = new boolean[TOWERS];

        Towers() {
            for (int tower = 0; tower < TOWERS; tower++) {
                slowLimit[tower] = FIRST_SLOW_LIMIT;
                stopLimit[tower] = FIRST_STOP_LIMIT;
            }
        }

        int ballotOf(int tower) {
            if (wind[tower] < slowLimit[tower]) {
                return FULL;
            }
            return wind[tower] < stopLimit[tower] ? SLOW : STOP;
        }

        int countCutOff() {
            int count = 0;
            for (int tower = 0; tower < TOWERS; tower++) {
                if (isCutOff[tower]) {
                    count++;
                }
            }
            return count;
        }

        /** The way to the nearest tower that is not cut off, 0 for such a tower itself; NONE if all are. */
        int delayOf(int tower) {
            int delay = NONE;
            for (int other = 0; other < TOWERS; other++) {
                if (!isCutOff[other]) {
                    int way = Math.abs(tower - other);
                    delay = delay == NONE ? way : Math.min(delay, way);
                }
            }
            return delay;
        }
    }

    /**
     * The votes of the last seven minutes. No vote is on its way longer than from the first tower to the last one,
     * so the row of a minute is free again when seven more have passed.
     */
    private static final class Post {
        final int[] ballot = new int[TOWERS * TOWERS];
        // 0, which is no minute's time, for a vote that never comes.
        final int[] comesAt = new int[TOWERS * TOWERS];

        void send(int tower, int vote, int madeAt, int delay) {
            int slot = slotOf(tower, madeAt);
            ballot[slot] = vote;
            comesAt[slot] = delay == NONE ? 0 : madeAt + delay;
        }

        void deliver(int now, Control control) {
            for (int madeAt = Math.max(1, now - TOWERS + 1); madeAt <= now; madeAt++) {
                for (int tower = 0; tower < TOWERS; tower++) {
                    int slot = slotOf(tower, madeAt);
                    if (comesAt[slot] == now) {
                        control.take(tower, ballot[slot], madeAt);
                    }
                }
            }
        }

        int countLater(int now) {
            int count = 0;
            for (int slot = 0; slot < comesAt.length; slot++) {
                if (comesAt[slot] > now) {
                    count++;
                }
            }
            return count;
        }

        private static int slotOf(int tower, int madeAt) {
            return Math.floorMod(madeAt, TOWERS) * TOWERS + tower;
        }
    }

    /** The control, with the vote that it has of each tower. */
    private static final class Control {
        final int[] ballot = new int[TOWERS];
        final int[] madeAt = new int[TOWERS];

        Control() {
            for (int tower = 0; tower < TOWERS; tower++) {
                ballot[tower] = NONE;
                madeAt[tower] = NONE;
            }
        }

        void take(int tower, int vote, int time) {
            // NONE is below every time, so a first vote is taken too.
            if (time > madeAt[tower]) {
                ballot[tower] = vote;
                madeAt[tower] = time;
            }
        }

        boolean isFresh(int tower, int now) {
            return madeAt[tower] != NONE && now - madeAt[tower] <= FRESH_MINUTES;
        }

        int freshSet(int now) {
            int set = 0;
            for (int tower = 0; tower < TOWERS; tower++) {
                if (isFresh(tower, now)) {
                    set |= 1 << tower;
                }
            }
            return set;
        }

        int countFresh(int vote, int now) {
            int count = 0;
            for (int tower = 0; tower < TOWERS; tower++) {
                if (ballot[tower] == vote && isFresh(tower, now)) {
                    count++;
                }
            }
            return count;
        }

        int speedByVotes(int now) {
            int full = countFresh(FULL, now);
            int slow = countFresh(SLOW, now);
            int stop = countFresh(STOP, now);
            if (full >= QUORUM && stop == 0) {
                return FULL;
            }
            return full + slow >= QUORUM && stop <= 1 ? SLOW : STOP;
        }
    }

    /** The tickets that were sold. */
    private static final class Tickets {
        final int[] car = new int[MOST_TICKETS];
        final int[] people = new int[MOST_TICKETS];
        final int[] fare = new int[MOST_TICKETS];
        // Turns tell when a car has passed a place, without a look at where the loop closes.
        final int[] goalTurns = new int[MOST_TICKETS];
        final int[] arrivedAt = new int[MOST_TICKETS];
        final int[] minutesHung = new int[MOST_TICKETS];
        int sold = 0;

        boolean has(int ticket) {
            return ticket >= 0 && ticket < sold && ticket < MOST_TICKETS;
        }

        boolean isLeft() {
            return sold < MOST_TICKETS;
        }

        /** To be called only when isLeft() says so. */
        int sell(int itsCar, int itsPeople, int itsFare, int itsGoalTurns) {
            int ticket = sold;
            if (ticket < MOST_TICKETS) {
                sold++;
                car[ticket] = itsCar;
                people[ticket] = itsPeople;
                fare[ticket] = itsFare;
                goalTurns[ticket] = itsGoalTurns;
                arrivedAt[ticket] = NONE;
            }
            return ticket;
        }

        int peopleIn(int itsCar) {
            int count = 0;
            for (int ticket = 0; ticket < sold && ticket < MOST_TICKETS; ticket++) {
                if (car[ticket] == itsCar && arrivedAt[ticket] == NONE) {
                    count += people[ticket];
                }
            }
            return count;
        }

        void passMinute(int now, int turns, int speed, Loop loop) {
            for (int ticket = 0; ticket < sold && ticket < MOST_TICKETS; ticket++) {
                if (arrivedAt[ticket] != NONE) {
                    continue;
                }
                if (turns >= goalTurns[ticket]) {
                    arrivedAt[ticket] = now;
                } else if (speed == STOP && loop.isOutOfStations(car[ticket])) {
                    minutesHung[ticket]++;
                }
            }
        }

        int refundOf(int ticket) {
            int wholeFare = fare[ticket] * people[ticket];
            int paidMinutes = Math.max(0, minutesHung[ticket] - UNPAID_MINUTES);
            return Math.min(wholeFare, wholeFare * paidMinutes / REFUND_DIVISOR);
        }

        int sumOfRefunds() {
            int sum = 0;
            for (int ticket = 0; ticket < sold && ticket < MOST_TICKETS; ticket++) {
                sum += refundOf(ticket);
            }
            return sum;
        }
    }
}
