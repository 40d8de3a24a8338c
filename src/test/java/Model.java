import java.util.ArrayList;
import java.util.List;

/**
 * The document told over again from its logs: it keeps what was done and when, and finds each answer from that,
 * so that it shares no way of thinking with the program.
 */
final class Model {
    private record Ballot(int tower, int madeAt, int comesAt, int vote) {
    }

    private static final class Car {
        int startMinute;
        boolean isOff;
    }

    private static final class Ticket {
        int car;
        int people;
        int fare;
        int soldMinute;
        boolean isToTop;
    }

    private final int[] wind = new int[7];
    private final int[] slow = {40, 40, 40, 40, 40, 40, 40};
    private final int[] stop = {70, 70, 70, 70, 70, 70, 70};
    private final boolean[] cut = new boolean[7];
    private final List<Ballot> ballots = new ArrayList<>();
    private final List<Integer> speeds = new ArrayList<>();
    private final List<Integer> freshCounts = new ArrayList<>();
    private final List<Car> cars = new ArrayList<>();
    private final List<Ticket> tickets = new ArrayList<>();
    private boolean held;

    // ---- cars

    int putOn() {
        boolean isNear = false;
        for (int car = 0; car < cars.size(); car++) {
            isNear |= isCar(car) && gap(placeAt(car, time()), 0) < 60;
        }
        if (cars.size() == 16 || isNear) {
            throw new IllegalStateException();
        }
        Car made = new Car();
        made.startMinute = time();
        cars.add(made);
        return cars.size() - 1;
    }

    int takeOff(int car) {
        needCar(car);
        if (placeAt(car, time()) > 19 || people(car) != 0) {
            throw new IllegalStateException();
        }
        cars.get(car).isOff = true;
        return parts(cars.get(car).startMinute, time());
    }

    int cars() {
        int count = 0;
        for (Car car : cars) {
            count += car.isOff ? 0 : 1;
        }
        return count;
    }

    int place(int car) {
        needCar(car);
        return placeAt(car, time());
    }

    int leastGap() {
        int least = Integer.MAX_VALUE;
        for (int a = 0; a < cars.size(); a++) {
            for (int b = a + 1; b < cars.size(); b++) {
                if (isCar(a) && isCar(b)) {
                    least = Math.min(least, gap(place(a), place(b)));
                }
            }
        }
        return least == Integer.MAX_VALUE ? -1 : least;
    }

    // ---- towers and votes

    int wind(int tower, int value) {
        needTower(tower);
        need(value >= 0 && value <= 150);
        wind[tower] = value;
        return votes(tower);
    }

    int setLimits(int tower, int slowLimit, int stopLimit) {
        needTower(tower);
        need(0 <= slowLimit && slowLimit <= stopLimit && stopLimit <= 150);
        slow[tower] = slowLimit;
        stop[tower] = stopLimit;
        return votes(tower);
    }

    int cut(int tower, boolean isCut) {
        needTower(tower);
        cut[tower] = isCut;
        int count = 0;
        for (boolean one : cut) {
            count += one ? 1 : 0;
        }
        return count;
    }

    int vote(int tower) {
        needTower(tower);
        Ballot last = lastOf(tower);
        return last == null ? -1 : last.vote();
    }

    int voteTime(int tower) {
        needTower(tower);
        Ballot last = lastOf(tower);
        return last == null ? -1 : last.madeAt();
    }

    int fresh() {
        int set = 0;
        for (int tower = 0; tower < 7; tower++) {
            set += isFresh(tower) ? 1 << tower : 0;
        }
        return set;
    }

    int onTheWay() {
        int count = 0;
        for (Ballot ballot : ballots) {
            count += ballot.comesAt() > time() ? 1 : 0;
        }
        return count;
    }

    int wouldDecide() {
        int[] counts = new int[3];
        for (int tower = 0; tower < 7; tower++) {
            if (isFresh(tower)) {
                counts[lastOf(tower).vote()]++;
            }
        }
        if (held) {
            return 0;
        }
        if (counts[2] > 3 && counts[0] < 1) {
            return 2;
        }
        return counts[1] + counts[2] > 3 && counts[0] < 2 ? 1 : 0;
    }

    // ---- the rope

    boolean hold(boolean isHeld) {
        boolean was = held;
        held = isHeld;
        return was;
    }

    int pass(int minutes) {
        need(minutes >= 1 && minutes <= 60);
        if (time() + minutes > 1000) {
            throw new IllegalStateException();
        }
        int from = time();
        for (int i = 0; i < minutes; i++) {
            passMinute();
        }
        return parts(from, time());
    }

    private void passMinute() {
        // The speed is not known yet: STOP stands in for it while the votes of this minute are looked at.
        speeds.add(0);
        for (int tower = 0; tower < 7; tower++) {
            for (int way = 0; way < 7; way++) {
                if (tower >= way && !cut[tower - way] || tower + way < 7 && !cut[tower + way]) {
                    ballots.add(new Ballot(tower, time(), time() + way, votes(tower)));
                    break;
                }
            }
        }
        speeds.set(time() - 1, wouldDecide());
        freshCounts.add(Integer.bitCount(fresh()));
    }

    int time() {
        return speeds.size();
    }

    int moved() {
        return parts(0, time());
    }

    int decided(int minute) {
        index(minute >= 1 && minute <= time());
        return freshCounts.get(minute - 1) * 10 + speeds.get(minute - 1);
    }

    int minutes(int speed) {
        need(speed >= 0 && speed <= 2);
        int count = 0;
        for (int one : speeds) {
            count += one == speed ? 1 : 0;
        }
        return count;
    }

    // ---- tickets

    int board(int car, int people, int fare) {
        needCar(car);
        need(people >= 1 && people <= 8 && fare >= 0 && fare <= 1000);
        int place = place(car);
        if (!isStation(place) || people(car) + people > 8 || tickets.size() == 60) {
            throw new IllegalStateException();
        }
        Ticket ticket = new Ticket();
        ticket.car = car;
        ticket.people = people;
        ticket.fare = fare;
        ticket.soldMinute = time();
        ticket.isToTop = place < 600;
        tickets.add(ticket);
        return tickets.size() - 1;
    }

    int people(int car) {
        needCar(car);
        int count = 0;
        for (int ticket = 0; ticket < tickets.size(); ticket++) {
            if (tickets.get(ticket).car == car && arrived(ticket) == -1) {
                count += tickets.get(ticket).people;
            }
        }
        return count;
    }

    int arrived(int ticket) {
        needTicket(ticket);
        Ticket it = tickets.get(ticket);
        for (int minute = it.soldMinute + 1; minute <= time(); minute++) {
            // The rope moves 30 parts at most: in the minute of the arrival the car is just behind the goal.
            int goal = it.isToTop ? 600 : 0;
            int behind = Math.floorMod(placeAt(it.car, minute) - goal, 1200);
            if (behind < speedParts(speeds.get(minute - 1))) {
                return minute;
            }
        }
        return -1;
    }

    int hung(int ticket) {
        needTicket(ticket);
        Ticket it = tickets.get(ticket);
        int end = arrived(ticket) == -1 ? time() : arrived(ticket) - 1;
        int count = 0;
        for (int minute = it.soldMinute + 1; minute <= end; minute++) {
            if (speeds.get(minute - 1) == 0 && !isStation(placeAt(it.car, minute))) {
                count++;
            }
        }
        return count;
    }

    int refund(int ticket) {
        int minutes = hung(ticket) - 5;
        long fare = (long) tickets.get(ticket).fare * tickets.get(ticket).people;
        return minutes <= 0 ? 0 : minutes >= 10 ? (int) fare : (int) (fare * minutes / 10);
    }

    int refunds() {
        int sum = 0;
        for (int ticket = 0; ticket < tickets.size(); ticket++) {
            sum += refund(ticket);
        }
        return sum;
    }

    // ---- found from the logs

    private int votes(int tower) {
        return wind[tower] >= Math.max(slow[tower], stop[tower]) ? 0 : wind[tower] >= slow[tower] ? 1 : 2;
    }

    private Ballot lastOf(int tower) {
        Ballot last = null;
        for (Ballot ballot : ballots) {
            if (ballot.tower() == tower && ballot.comesAt() <= time()) {
                last = last == null || ballot.madeAt() > last.madeAt() ? ballot : last;
            }
        }
        return last;
    }

    private boolean isFresh(int tower) {
        Ballot last = lastOf(tower);
        return last != null && last.madeAt() + 3 >= time();
    }

    private int placeAt(int car, int minute) {
        return parts(cars.get(car).startMinute, minute) % 1200;
    }

    private int parts(int fromMinute, int toMinute) {
        int sum = 0;
        for (int minute = fromMinute; minute < toMinute; minute++) {
            sum += speedParts(speeds.get(minute));
        }
        return sum;
    }

    private static int speedParts(int speed) {
        return new int[] {0, 10, 30}[speed];
    }

    private static int gap(int a, int b) {
        return Math.min(Math.floorMod(a - b, 1200), Math.floorMod(b - a, 1200));
    }

    private static boolean isStation(int place) {
        return place % 600 < 20;
    }

    private boolean isCar(int car) {
        return car >= 0 && car < cars.size() && !cars.get(car).isOff;
    }

    private void needCar(int car) {
        index(isCar(car));
    }

    private void needTicket(int ticket) {
        index(ticket >= 0 && ticket < tickets.size());
    }

    private static void needTower(int tower) {
        index(tower >= 0 && tower < 7);
    }

    private static void index(boolean holds) {
        if (!holds) {
            throw new IndexOutOfBoundsException();
        }
    }

    private static void need(boolean holds) {
        if (!holds) {
            throw new IllegalArgumentException();
        }
    }
}
