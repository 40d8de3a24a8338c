/** The sentences on exceptions: which call throws which, the first of several, and that nothing changes by it. */
public final class RefusalTest {
    private interface State {
        RopeVotes make();
    }

    private interface Call {
        long on(RopeVotes x);
    }

    private static final int MIN = Integer.MIN_VALUE;
    private static final int MAX = Integer.MAX_VALUE;

    public static void main(String[] args) {
        Check.part(RefusalTest::refusedOnANewObject);
        Check.part(RefusalTest::refusedOnTheWay);
        Check.part(RefusalTest::refusedWhileHeld);
        Check.part(RefusalTest::refusedWithACarNear);
        Check.part(RefusalTest::refusedWithAllCars);
        Check.part(RefusalTest::refusedWithAllTickets);
        Check.part(RefusalTest::refusedAtTheLastTime);
        Check.part(RefusalTest::aRefusedWindIsNotKept);
        Check.part(RefusalTest::refusedLimitsAreNotKept);
        Check.part(RefusalTest::aRefusedPassPassesNoMinute);
        Check.part(RefusalTest::aRefusedNumberIsNotUsedUp);
        Check.part(RefusalTest::eachKindOfException);
        Check.part(RefusalTest::theFirstExceptionIsThrown);
        Check.end();
    }

    // ---- A call that throws an exception changes nothing.

    private static void refusedOnANewObject() {
        Check.sentence("A call that throws an exception changes nothing.");
        refusedEverywhere(RopeVotes::new);
        index(RopeVotes::new, "takeOff 0", x -> x.takeOff(0));
        index(RopeVotes::new, "place 0", x -> x.place(0));
        index(RopeVotes::new, "placeByTurns 0", x -> x.placeByTurns(0));
        index(RopeVotes::new, "people 0", x -> x.people(0));
        index(RopeVotes::new, "board 0", x -> x.board(0, 1, 1));
        index(RopeVotes::new, "arrived 0", x -> x.arrived(0));
        index(RopeVotes::new, "hung 0", x -> x.hung(0));
        index(RopeVotes::new, "refund 0", x -> x.refund(0));
        index(RopeVotes::new, "decided 1", x -> x.decided(1));
    }

    private static void refusedOnTheWay() {
        Check.sentence("A call that throws an exception changes nothing.");
        State state = RefusalTest::onTheWay;
        refusedEverywhere(state);
        index(state, "takeOff of a car taken off", x -> x.takeOff(1));
        index(state, "place of a car taken off", x -> x.place(1));
        index(state, "board in a car taken off", x -> x.board(1, 1, 1));
        refused(state, "takeOff at 600", Check.STATE, x -> x.takeOff(0));
        refused(state, "takeOff with people", Check.STATE, x -> x.takeOff(3));
        refused(state, "board in no station", Check.STATE, x -> x.board(2, 1, 1));
        refused(state, "board without room", Check.STATE, x -> x.board(3, 6, 1));
        refused(state, "board of no people", Check.ARGUMENT, x -> x.board(3, 0, 1));
        refused(state, "board of 9 people", Check.ARGUMENT, x -> x.board(3, 9, 1));
        refused(state, "board at the fare -1", Check.ARGUMENT, x -> x.board(3, 1, -1));
        refused(state, "board at the fare 1001", Check.ARGUMENT, x -> x.board(3, 1, 1001));
        refused(state, "putOn with a car at 0", Check.STATE, RopeVotes::putOn);
        index(state, "arrived 3", x -> x.arrived(3));
        index(state, "hung 3", x -> x.hung(3));
        index(state, "refund 3", x -> x.refund(3));
        index(state, "decided 0", x -> x.decided(0));
        index(state, "decided of the next minute", x -> x.decided(x.time() + 1));
    }

    private static void refusedWhileHeld() {
        Check.sentence("A call that throws an exception changes nothing.");
        State state = () -> {
            RopeVotes x = onTheWay();
            x.hold(true);
            x.pass(7);
            return x;
        };
        refusedEverywhere(state);
        refused(state, "takeOff with people, held", Check.STATE, x -> x.takeOff(3));
        refused(state, "putOn, held", Check.STATE, RopeVotes::putOn);
    }

    private static void refusedWithACarNear() {
        Check.sentence("A call that throws an exception changes nothing.");
        refused(() -> Runs.carAt(50), "putOn with a car at 50", Check.STATE, RopeVotes::putOn);
        refused(() -> Runs.carAt(1150), "putOn with a car at 1150", Check.STATE, RopeVotes::putOn);
        refused(() -> Runs.carAt(20), "takeOff at 20", Check.STATE, x -> x.takeOff(0));
        refused(() -> Runs.carAt(1190), "takeOff at 1190", Check.STATE, x -> x.takeOff(0));
        refused(() -> Runs.carAt(590), "board at 590", Check.STATE, x -> x.board(0, 1, 1));
        refused(() -> Runs.carAt(620), "board at 620", Check.STATE, x -> x.board(0, 1, 1));
    }

    private static void refusedWithAllCars() {
        Check.sentence("A call that throws an exception changes nothing.");
        State state = () -> {
            RopeVotes x = new RopeVotes();
            for (int car = 0; car < 16; car++) {
                x.putOn();
                x.pass(2);
            }
            return x;
        };
        refusedEverywhere(state);
        refused(state, "putOn number 17", Check.STATE, RopeVotes::putOn);
    }

    private static void refusedWithAllTickets() {
        Check.sentence("A call that throws an exception changes nothing.");
        State state = () -> {
            RopeVotes x = new RopeVotes();
            x.putOn();
            for (int ticket = 0; ticket < 60; ticket++) {
                x.board(0, 1, 1);
                if (ticket % 8 == 7) {
                    x.pass(20);
                }
            }
            return x;
        };
        refusedEverywhere(state);
        refused(state, "board number 61", Check.STATE, x -> x.board(0, 1, 1));
        index(state, "refund 60", x -> x.refund(60));
    }

    private static void refusedAtTheLastTime() {
        Check.sentence("A call that throws an exception changes nothing.");
        State state = () -> {
            RopeVotes x = onTheWay();
            for (int i = 0; i < 16; i++) {
                x.pass(60);
            }
            x.pass(19);
            return x;
        };
        refusedEverywhere(state);
        Check.due("time", 1000, state.make().time());
        refused(state, "pass 1 at 1000", Check.STATE, x -> x.pass(1));
        refused(state, "pass 60 at 1000", Check.STATE, x -> x.pass(60));
        index(state, "decided 1001", x -> x.decided(1001));
    }

    /** What is refused in every state. */
    private static void refusedEverywhere(State state) {
        int[] towers = {-1, 7, MAX, MIN};
        for (int tower : towers) {
            index(state, "wind " + tower, x -> x.wind(tower, 90));
            index(state, "setLimits " + tower, x -> x.setLimits(tower, 20, 90));
            index(state, "cut " + tower, x -> x.cut(tower, true));
            index(state, "join " + tower, x -> x.cut(tower, false));
            index(state, "vote " + tower, x -> x.vote(tower));
            index(state, "voteTime " + tower, x -> x.voteTime(tower));
        }
        int[] cars = {-1, 16, MAX, MIN};
        for (int car : cars) {
            index(state, "takeOff " + car, x -> x.takeOff(car));
            index(state, "place " + car, x -> x.place(car));
            index(state, "placeByTurns " + car, x -> x.placeByTurns(car));
            index(state, "people " + car, x -> x.people(car));
            index(state, "board " + car, x -> x.board(car, 1, 1));
        }
        int[] numbers = {-1, 60, MAX, MIN};
        for (int ticket : numbers) {
            index(state, "arrived " + ticket, x -> x.arrived(ticket));
            index(state, "hung " + ticket, x -> x.hung(ticket));
            index(state, "refund " + ticket, x -> x.refund(ticket));
        }
        int[] minutes = {-1, 0, 61, MAX, MIN};
        for (int some : minutes) {
            refused(state, "pass " + some, Check.ARGUMENT, x -> x.pass(some));
        }
        int[] speeds = {-1, 3, MAX, MIN};
        for (int speed : speeds) {
            refused(state, "minutes " + speed, Check.ARGUMENT, x -> x.minutes(speed));
        }
        int[] winds = {-1, 151, MAX, MIN};
        for (int wind : winds) {
            refused(state, "wind 0 " + wind, Check.ARGUMENT, x -> x.wind(0, wind));
            refused(state, "setLimits 6 20 " + wind, Check.ARGUMENT, x -> x.setLimits(6, 20, wind));
            refused(state, "setLimits 6 " + wind + " 90", Check.ARGUMENT, x -> x.setLimits(6, wind, 90));
        }
        refused(state, "setLimits 6 90 20", Check.ARGUMENT, x -> x.setLimits(6, 90, 20));
    }

    /** A car at the top, one taken off, one in no station and one at the bottom; votes on the way; three tickets. */
    private static RopeVotes onTheWay() {
        RopeVotes x = new RopeVotes();
        x.putOn();
        x.board(0, 2, 10);
        x.pass(2);
        x.putOn();
        x.takeOff(1);
        x.pass(8);
        x.putOn();
        x.board(2, 5, 100);
        x.pass(10);
        x.putOn();
        x.board(3, 3, 7);
        x.wind(2, 50);
        x.setLimits(4, 20, 90);
        x.wind(4, 30);
        x.cut(1, true);
        x.cut(5, true);
        x.cut(6, true);
        x.hold(true);
        x.pass(1);
        x.hold(false);
        x.cut(4, true);
        return x;
    }

    private static void index(State state, String what, Call call) {
        refused(state, what, Check.INDEX, call);
    }

    /** Holds a rope on which the call is refused against one on which it was never tried. */
    private static void refused(State state, String what, String exception, Call call) {
        RopeVotes tried = state.make();
        RopeVotes other = state.make();
        Check.dueThrow(what, exception, () -> call.on(tried));
        Check.due(what + ": the answers behind it", Answers.now(other), Answers.now(tried));
        Check.due(what + ": what comes later", Answers.later(other), Answers.later(tried));
    }

    // ---- what can't be asked for

    private static void aRefusedWindIsNotKept() {
        Check.sentence("A call that throws an exception changes nothing.");
        RopeVotes x = new RopeVotes();
        Runs.all(x, 55);
        int[] wrong = {-1, 151, MAX, MIN};
        for (int wind : wrong) {
            Check.dueThrow("wind 3 " + wind, Check.ARGUMENT, () -> x.wind(3, wind));
            Check.dueThrow("wind 7 " + wind, Check.INDEX, () -> x.wind(7, wind));
        }
        Check.dueThrow("wind 7 10", Check.INDEX, () -> x.wind(7, 10));
        Check.dueThrow("wind -1 10", Check.INDEX, () -> x.wind(-1, 10));
        for (int tower = 0; tower < 7; tower++) {
            Check.due("55 is below 56", RopeVotes.FULL, x.setLimits(tower, 56, 56));
            Check.due("55 is not below 55, but below 56", RopeVotes.SLOW, x.setLimits(tower, 55, 56));
            Check.due("55 is not below 55", RopeVotes.STOP, x.setLimits(tower, 55, 55));
        }
    }

    private static void refusedLimitsAreNotKept() {
        Check.sentence("A call that throws an exception changes nothing.");
        RopeVotes x = new RopeVotes();
        for (int tower = 0; tower < 7; tower++) {
            x.setLimits(tower, 45, 65);
        }
        int[][] wrong = {{10, 151}, {-1, 100}, {100, 10}, {10, -1}, {151, 151}, {10, 9}, {MIN, 50}, {50, MAX}};
        for (int[] limits : wrong) {
            Check.dueThrow("setLimits 3 " + limits[0] + " " + limits[1], Check.ARGUMENT,
                () -> x.setLimits(3, limits[0], limits[1]));
        }
        Check.dueThrow("setLimits 7", Check.INDEX, () -> x.setLimits(7, 10, 20));
        Check.dueThrow("setLimits -1", Check.INDEX, () -> x.setLimits(-1, 10, 20));
        int[] winds = {44, 45, 64, 65};
        int[] votes = {2, 1, 1, 0};
        for (int tower = 0; tower < 7; tower++) {
            for (int i = 0; i < winds.length; i++) {
                Check.due("wind " + tower + " " + winds[i], votes[i], x.wind(tower, winds[i]));
            }
        }
    }

    private static void aRefusedPassPassesNoMinute() {
        Check.sentence("A call that throws an exception changes nothing.");
        RopeVotes x = new RopeVotes();
        x.putOn();
        x.board(0, 1, 1);
        for (int i = 0; i < 16; i++) {
            x.pass(60);
        }
        x.pass(39);
        int place = x.place(0);
        for (int minutes = 2; minutes <= 60; minutes++) {
            int some = minutes;
            Check.dueThrow("pass " + minutes + " at 999", Check.STATE, () -> x.pass(some));
        }
        Check.due("time", 999, x.time());
        Check.due("moved", 29970, x.moved());
        Check.due("place", place, x.place(0));
        Check.due("voteTime", 999, x.voteTime(0));
        Check.due("minutes FULL", 999, x.minutes(RopeVotes.FULL));
        Check.dueThrow("decided 1000", Check.INDEX, () -> x.decided(1000));
        Check.due("pass 1 at 999", 30, x.pass(1));
    }

    private static void aRefusedNumberIsNotUsedUp() {
        Check.sentence("A call that throws an exception changes nothing.");
        RopeVotes x = new RopeVotes();
        x.putOn();
        for (int i = 0; i < 20; i++) {
            Check.dueThrow("putOn at a gap of 0", Check.STATE, x::putOn);
            Check.dueThrow("board of 9", Check.ARGUMENT, () -> x.board(0, 9, 1));
        }
        x.board(0, 8, 1);
        for (int i = 0; i < 70; i++) {
            Check.dueThrow("board beyond 8", Check.STATE, () -> x.board(0, 1, 1));
        }
        x.pass(20);
        Check.due("the next car", 1, x.putOn());
        Check.due("the next ticket", 1, x.board(0, 1, 1));
    }

    private static void eachKindOfException() {
        Check.sentence("An IndexOutOfBoundsException is thrown if there is no such car (or it was taken off), tower, "
            + "ticket or minute, an IllegalArgumentException if another argument is out of its range, "
            + "an IllegalStateException as told.");
        RopeVotes x = new RopeVotes();
        x.putOn();
        x.takeOff(0);
        x.putOn();
        x.board(1, 1, 1);
        x.pass(1);
        Check.dueThrow("a car that was taken off", Check.INDEX, () -> x.place(0));
        Check.dueThrow("no such car", Check.INDEX, () -> x.place(2));
        Check.dueThrow("no such tower", Check.INDEX, () -> x.vote(7));
        Check.dueThrow("no such ticket", Check.INDEX, () -> x.hung(1));
        Check.dueThrow("no such minute", Check.INDEX, () -> x.decided(2));
        Check.dueThrow("another argument", Check.ARGUMENT, () -> x.minutes(3));
        Check.dueThrow("another argument", Check.ARGUMENT, () -> x.pass(0));
        Check.dueThrow("not in the bottom station", Check.STATE, () -> x.takeOff(1));
        Check.due("the car, which is there", 30, x.place(1));
        Check.due("the tower, which is there", 2, x.vote(6));
        Check.due("the ticket, which is there", 0, x.hung(0));
        Check.due("the minute, which is there", 72, x.decided(1));
    }

    // ---- If several exceptions of a throws clause apply, the one that is listed first is thrown.

    private static void theFirstExceptionIsThrown() {
        Check.sentence("If several exceptions of a throws clause apply, the one that is listed first is thrown.");
        RopeVotes x = Runs.carAt(30);
        int[] towers = {-1, 7, MAX, MIN};
        for (int tower : towers) {
            Check.dueThrow("no tower, no wind", Check.INDEX, () -> x.wind(tower, -1));
            Check.dueThrow("no tower, no wind", Check.INDEX, () -> x.wind(tower, 151));
            Check.dueThrow("no tower, no limits", Check.INDEX, () -> x.setLimits(tower, -1, 151));
            Check.dueThrow("no tower, limits the wrong way", Check.INDEX, () -> x.setLimits(tower, 70, 40));
        }
        int[] cars = {-1, 1, 16, MAX, MIN};
        for (int car : cars) {
            Check.dueThrow("no car, no people", Check.INDEX, () -> x.board(car, 0, 1));
            Check.dueThrow("no car, no fare", Check.INDEX, () -> x.board(car, 1, 1001));
            Check.dueThrow("no car, no station", Check.INDEX, () -> x.board(car, 1, 1));
            Check.dueThrow("no car, no station", Check.INDEX, () -> x.takeOff(car));
        }
        Check.dueThrow("no people, no station", Check.ARGUMENT, () -> x.board(0, 0, 1));
        Check.dueThrow("9 people, no station, no room", Check.ARGUMENT, () -> x.board(0, 9, 1));
        Check.dueThrow("no fare, no station", Check.ARGUMENT, () -> x.board(0, 1, -1));
        Check.dueThrow("no station", Check.STATE, () -> x.board(0, 1, 1));
        RopeVotes y = new RopeVotes();
        y.putOn();
        y.board(0, 8, 1);
        Check.dueThrow("no people, no room", Check.ARGUMENT, () -> y.board(0, 0, 1));
        Check.dueThrow("no fare, no room", Check.ARGUMENT, () -> y.board(0, 1, 1001));
        Check.dueThrow("no room", Check.STATE, () -> y.board(0, 1, 1));
        y.pass(20);
        y.pass(20);
        y.takeOff(0);
        Check.dueThrow("a car taken off, no people", Check.INDEX, () -> y.board(0, 0, -1));
        Runs.move(y, 28800);
        Check.due("time", 1000, y.time());
        Check.dueThrow("no minutes, and above 1000", Check.ARGUMENT, () -> y.pass(61));
        Check.dueThrow("no minutes, and above 1000", Check.ARGUMENT, () -> y.pass(MAX));
        Check.dueThrow("no minutes", Check.ARGUMENT, () -> y.pass(0));
        Check.dueThrow("above 1000", Check.STATE, () -> y.pass(1));
    }
}
