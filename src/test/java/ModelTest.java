import java.util.Random;

/** Runs drawn by fixed seeds, in which the program must answer as the model does. */
public final class ModelTest {
    private static final int RUNS = 300;
    // What calls beyond these answer is free.
    private static final int MOST_CALLS = 512;

    private final Random random;
    private final RopeVotes x = new RopeVotes();
    private final Model m = new Model();
    private final int mood;
    private int calls = 0;

    private ModelTest(int seed) {
        random = new Random(seed);
        mood = seed % 4;
    }

    public static void main(String[] args) {
        for (int seed = 0; seed < RUNS; seed++) {
            ModelTest run = new ModelTest(seed);
            while (run.calls < MOST_CALLS) {
                run.call("seed " + seed + " call " + run.calls + ": ");
            }
        }
        Check.end();
    }

    private void call(String where) {
        switch (random.nextInt(10)) {
            case 0, 1 -> callTowers(where);
            case 2, 3 -> callPass(where);
            case 4, 5 -> callCars(where);
            case 6, 7 -> callTickets(where);
            default -> ask(where);
        }
    }

    private void callTowers(String where) {
        int tower = upTo(7);
        switch (random.nextInt(8)) {
            case 0, 1 -> {
                int wind = random.nextInt(mood == 0 ? 160 : 60) - 2;
                same(where + "wind " + tower + " " + wind, () -> x.wind(tower, wind), () -> m.wind(tower, wind));
            }
            case 2 -> {
                int slow = random.nextInt(20) == 0 ? random.nextInt(160) - 4 : 30 + random.nextInt(30);
                int stop = slow - 3 + random.nextInt(60);
                same(where + "setLimits " + tower + " " + slow + " " + stop,
                    () -> x.setLimits(tower, slow, stop), () -> m.setLimits(tower, slow, stop));
            }
            case 3 -> {
                boolean isHeld = random.nextInt(3) == 0;
                same(where + "hold", () -> x.hold(isHeld) ? 1 : 0, () -> m.hold(isHeld) ? 1 : 0);
            }
            case 4, 5, 6 -> {
                boolean isCut = random.nextInt(mood == 1 ? 4 : 2) != 0;
                same(where + "cut " + tower, () -> x.cut(tower, isCut), () -> m.cut(tower, isCut));
            }
            default -> {
                for (int t = 0; t < 7; t++) {
                    int one = t;
                    same(where + "wind 0", () -> x.wind(one, 0), () -> m.wind(one, 0));
                    same(where + "join", () -> x.cut(one, false), () -> m.cut(one, false));
                }
            }
        }
    }

    private void callPass(String where) {
        int minutes = random.nextInt(30) == 0 ? random.nextInt(64) - 1 : 1 + random.nextInt(mood == 3 ? 30 : 8);
        same(where + "pass " + minutes, () -> x.pass(minutes), () -> m.pass(minutes));
    }

    private void callCars(String where) {
        int car = upTo(Math.min(17, m.cars() + 3));
        switch (random.nextInt(6)) {
            case 0, 1 -> same(where + "putOn", x::putOn, m::putOn);
            case 2 -> same(where + "takeOff " + car, () -> x.takeOff(car), () -> m.takeOff(car));
            default -> {
                same(where + "place " + car, () -> x.place(car), () -> m.place(car));
                same(where + "placeByTurns " + car, () -> x.placeByTurns(car), () -> m.place(car));
                same(where + "leastGap", x::leastGap, m::leastGap);
                same(where + "cars", x::cars, m::cars);
            }
        }
    }

    private void callTickets(String where) {
        int car = random.nextInt(3) == 0 ? upTo(17) : stationCar();
        int ticket = upTo(61);
        if (random.nextInt(2) == 0) {
            int people = random.nextInt(15) == 0 ? random.nextInt(12) - 1 : 1 + random.nextInt(3);
            int fare = random.nextInt(15) == 0 ? random.nextInt(1100) - 40 : random.nextInt(100);
            same(where + "board " + car + " " + people + " " + fare,
                () -> x.board(car, people, fare), () -> m.board(car, people, fare));
        } else {
            same(where + "arrived " + ticket, () -> x.arrived(ticket), () -> m.arrived(ticket));
            same(where + "hung " + ticket, () -> x.hung(ticket), () -> m.hung(ticket));
            same(where + "refund " + ticket, () -> x.refund(ticket), () -> m.refund(ticket));
            same(where + "refunds", x::refunds, m::refunds);
            same(where + "people " + car, () -> x.people(car), () -> m.people(car));
        }
    }

    private void ask(String where) {
        int tower = upTo(7);
        int minute = random.nextInt(m.time() + 3) - 1;
        int speed = upTo(3);
        same(where + "vote " + tower, () -> x.vote(tower), () -> m.vote(tower));
        same(where + "voteTime " + tower, () -> x.voteTime(tower), () -> m.voteTime(tower));
        same(where + "fresh", x::fresh, m::fresh);
        same(where + "onTheWay", x::onTheWay, m::onTheWay);
        same(where + "wouldDecide", x::wouldDecide, m::wouldDecide);
        same(where + "time", x::time, m::time);
        same(where + "moved", x::moved, m::moved);
        same(where + "decided " + minute, () -> x.decided(minute), () -> m.decided(minute));
        same(where + "minutes " + speed, () -> x.minutes(speed), () -> m.minutes(speed));
    }

    /** A number in range, and one time in thirty just out of it. */
    private int upTo(int bound) {
        if (random.nextInt(30) == 0) {
            return random.nextBoolean() ? -1 : bound;
        }
        return random.nextInt(bound);
    }

    /** A car in a station if there is one, as few calls would sell a ticket otherwise. */
    private int stationCar() {
        for (int car = 0; car < 16; car++) {
            try {
                if (m.place(car) % 600 < 20) {
                    return car;
                }
            } catch (IndexOutOfBoundsException e) {
                continue;
            }
        }
        return 0;
    }

    private void same(String what, Check.Call program, Check.Call model) {
        if (calls < MOST_CALLS) {
            calls++;
            Check.due(what, Check.outcome(model), Check.outcome(program));
        }
    }
}
