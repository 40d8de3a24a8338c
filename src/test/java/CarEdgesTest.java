/** Each sentence of 'The rope', and of the promises 1 to 7, that names a boundary case. */
public final class CarEdgesTest {
    private static final int MIN = Integer.MIN_VALUE;
    private static final int MAX = Integer.MAX_VALUE;

    public static void main(String[] args) {
        Check.part(CarEdgesTest::mostCalls);
        Check.part(CarEdgesTest::aPlaceIs0To1199);
        Check.part(CarEdgesTest::stations);
        Check.part(CarEdgesTest::behind1199Comes0);
        Check.part(CarEdgesTest::speedsInParts);
        Check.part(CarEdgesTest::turnsGoOn);
        Check.part(CarEdgesTest::carsAreNumberedFrom0);
        Check.part(CarEdgesTest::atMost16Cars);
        Check.part(CarEdgesTest::carsTakenOffAreCounted);
        Check.part(CarEdgesTest::aCarIsPutOnAtThePlace0);
        Check.part(CarEdgesTest::aCarMovesUntilItIsTakenOff);
        Check.part(CarEdgesTest::theGapIsTheLesserWay);
        Check.part(CarEdgesTest::aNewObjectBegins);
        Check.part(CarEdgesTest::newObjectsShareNothing);
        Check.part(CarEdgesTest::putOnAnswersTheNumber);
        Check.part(CarEdgesTest::putOnRefusesACarNumber17);
        Check.part(CarEdgesTest::putOnRefusesAGapBelow60);
        Check.part(CarEdgesTest::putOnLooksAtEachCar);
        Check.part(CarEdgesTest::takeOffAnswersThePartsOfThisCar);
        Check.part(CarEdgesTest::takeOffRefusesNoSuchCar);
        Check.part(CarEdgesTest::takeOffRefusesOtherPlaces);
        Check.part(CarEdgesTest::takeOffRefusesPeople);
        Check.part(CarEdgesTest::carsOnTheRope);
        Check.part(CarEdgesTest::placeRefusesNoSuchCar);
        Check.part(CarEdgesTest::placeByTurnsIsThePlace);
        Check.part(CarEdgesTest::placeByTurnsRefusesNoSuchCar);
        Check.part(CarEdgesTest::leastGapOfFewerThanTwo);
        Check.part(CarEdgesTest::leastGapOfAllPairs);
        Check.end();
    }

    // ---- What it is

    private static void mostCalls() {
        Check.sentence("An object is used for at most 512 calls after it has been made");
        RopeVotes x = new RopeVotes();
        x.putOn();
        for (int call = 2; call <= 510; call++) {
            if (call % 2 == 0) {
                x.pass(1);
            } else {
                Check.due("call " + call + ": moved", call / 2 * 30, x.moved());
            }
        }
        Check.due("call 511: pass", 30, x.pass(1));
        Check.due("call 512: place", 256 * 30 % 1200, x.place(0));
    }

    // ---- The rope

    private static void aPlaceIs0To1199() {
        Check.sentence("The rope is a loop of 1200 parts; a place on the line is 0 to 1199.");
        for (int place = 0; place < 1200; place += 10) {
            RopeVotes x = Runs.carAt(place);
            Check.due("place " + place, place, x.place(0));
            x.pass(40);
            Check.due("place " + place + " and 1200 parts more", place, x.place(0));
            Check.due("the same by turns", place, x.placeByTurns(0));
        }
    }

    private static void stations() {
        Check.sentence("The bottom station is at the places 0 to 19, the top station at 600 to 619.");
        int[] inside = {0, 10, 600, 610};
        for (int place : inside) {
            RopeVotes x = Runs.carAt(place);
            Check.due("board at " + place, 0, x.board(0, 1, 1));
            Runs.hang(x, 7);
            Check.due("hung at " + place, 0, x.hung(0));
        }
        int[] outside = {20, 30, 580, 590, 620, 630, 1180, 1190};
        for (int place : outside) {
            RopeVotes x = Runs.carAt(place);
            Check.dueThrow("board at " + place, Check.STATE, () -> x.board(0, 1, 1));
            Check.dueThrow("takeOff at " + place, Check.STATE, () -> x.takeOff(0));
            RopeVotes y = new RopeVotes();
            y.putOn();
            int start = place < 600 ? 0 : 600;
            Runs.move(y, start);
            y.board(0, 1, 1);
            Runs.move(y, place - start);
            Runs.hang(y, 7);
            Check.due("place", place, y.place(0));
            Check.due("hung at " + place, 7, y.hung(0));
        }
    }

    private static void behind1199Comes0() {
        Check.sentence("0, 10 or 30 parts a minute, all towards higher places, and behind 1199 comes 0.");
        int[] starts = {1160, 1170, 1180, 1190};
        int[] ends = {1190, 0, 10, 20};
        for (int i = 0; i < starts.length; i++) {
            RopeVotes x = Runs.carAt(starts[i]);
            x.pass(1);
            Check.due("place 30 parts behind " + starts[i], ends[i], x.place(0));
            Check.due("the same by turns", ends[i], x.placeByTurns(0));
        }
        RopeVotes x = Runs.carAt(1180);
        Runs.move(x, 10);
        Check.due("place 10 parts behind 1180", 1190, x.place(0));
        Runs.move(x, 10);
        Check.due("place 10 parts behind 1190", 0, x.place(0));
        Runs.move(x, 10);
        Check.due("place 10 parts behind 0", 10, x.place(0));
    }

    private static void speedsInParts() {
        Check.sentence("The speed of the rope is STOP, as at first, SLOW or FULL: 0, 10 or 30 parts a minute");
        int[] winds = {70, 40, 0};
        int[] parts = {0, 10, 30};
        for (int speed = 0; speed < 3; speed++) {
            RopeVotes x = new RopeVotes();
            x.putOn();
            Check.due("wouldDecide at first", RopeVotes.STOP, x.wouldDecide());
            Runs.all(x, winds[speed]);
            Check.due("pass 1 at the speed " + speed, parts[speed], x.pass(1));
            Check.due("decided", 70 + speed, x.decided(1));
            Check.due("place", parts[speed], x.place(0));
            Check.due("moved", parts[speed], x.moved());
        }
    }

    private static void turnsGoOn() {
        Check.sentence("The turns are how many parts the rope has moved since the time 0.");
        RopeVotes x = new RopeVotes();
        Runs.move(x, 1190);
        Check.due("moved", 1190, x.moved());
        Runs.move(x, 10);
        Check.due("moved a round, without a car", 1200, x.moved());
        x.putOn();
        Runs.hang(x, 3);
        Check.due("moved when a car was put on and the rope stood", 1200, x.moved());
        x.takeOff(0);
        x.pass(1);
        Check.due("moved when a car was taken off", 1230, x.moved());
        RopeVotes y = new RopeVotes();
        y.putOn();
        Runs.move(y, 30000);
        Check.due("time", 1000, y.time());
        Check.due("the most turns", 30000, y.moved());
        Check.due("place behind them", 0, y.place(0));
        Check.due("takeOff behind them", 30000, y.takeOff(0));
    }

    private static void carsAreNumberedFrom0() {
        Check.sentence("Cars are numbered from 0");
        RopeVotes x = new RopeVotes();
        Check.dueThrow("place 0 without cars", Check.INDEX, () -> x.place(0));
        Check.due("the first number", 0, x.putOn());
        Check.due("place 0", 0, x.place(0));
        Check.dueThrow("place 1", Check.INDEX, () -> x.place(1));
        x.pass(2);
        Check.due("the next number", 1, x.putOn());
        Check.due("place 1", 0, x.place(1));
        Check.dueThrow("place 2", Check.INDEX, () -> x.place(2));
    }

    private static void atMost16Cars() {
        Check.sentence("at most 16");
        RopeVotes x = sixteenCars();
        for (int car = 0; car < 16; car++) {
            Check.due("place " + car, (16 - car) * 60, x.place(car));
        }
        Check.due("cars", 16, x.cars());
        Check.due("leastGap", 60, x.leastGap());
        Check.dueThrow("place 16", Check.INDEX, () -> x.place(16));
    }

    private static void carsTakenOffAreCounted() {
        Check.sentence("those that were taken off counted");
        RopeVotes x = new RopeVotes();
        for (int car = 0; car < 16; car++) {
            Check.due("putOn", car, x.putOn());
            x.takeOff(car);
            Check.due("cars", 0, x.cars());
        }
        Check.dueThrow("putOn behind 16 that were taken off", Check.STATE, x::putOn);
        x.pass(1);
        Check.dueThrow("putOn a minute later", Check.STATE, x::putOn);
    }

    private static void aCarIsPutOnAtThePlace0() {
        Check.sentence("A car is put on at the place 0");
        for (int moved = 0; moved <= 1230; moved += 10) {
            RopeVotes x = new RopeVotes();
            Runs.move(x, moved);
            x.putOn();
            Check.due("place of a car put on at the turns " + moved, 0, x.place(0));
            Check.due("the same by turns", 0, x.placeByTurns(0));
        }
    }

    private static void aCarMovesUntilItIsTakenOff() {
        Check.sentence("and moves with the rope, until it is taken off.");
        RopeVotes x = new RopeVotes();
        x.putOn();
        x.pass(2);
        x.putOn();
        x.pass(38);
        Check.due("place 0", 0, x.place(0));
        x.takeOff(0);
        x.pass(2);
        Check.dueThrow("place of the car taken off", Check.INDEX, () -> x.place(0));
        Check.due("place of the other", 0, x.place(1));
        Check.due("leastGap without the car taken off", RopeVotes.NONE, x.leastGap());
    }

    private static void theGapIsTheLesserWay() {
        Check.sentence("The gap between two cars is the lesser one of the two ways along the loop "
            + "from one to the other.");
        for (int way = 60; way <= 1140; way += 10) {
            RopeVotes x = Runs.carAt(way);
            x.putOn();
            int due = way <= 600 ? way : 1200 - way;
            Check.due("leastGap at the ways " + way + " and " + (1200 - way), due, x.leastGap());
            Runs.move(x, 1200 - way);
            Check.due("the same with the first car at 0", due, x.leastGap());
            Runs.move(x, way / 2 / 10 * 10);
            Check.due("the same with 0 between the cars", due, x.leastGap());
        }
    }

    // ---- Promise 1

    private static void aNewObjectBegins() {
        Check.sentence("Promise 1: Begins at the time 0, without cars; the control has no votes.");
        RopeVotes x = new RopeVotes();
        Check.due("time", 0, x.time());
        Check.due("cars", 0, x.cars());
        for (int tower = 0; tower < 7; tower++) {
            Check.due("vote " + tower, RopeVotes.NONE, x.vote(tower));
            Check.due("voteTime " + tower, RopeVotes.NONE, x.voteTime(tower));
        }
        Check.due("fresh", 0, x.fresh());
        Check.due("onTheWay", 0, x.onTheWay());
        Check.due("wouldDecide", RopeVotes.STOP, x.wouldDecide());
        Check.due("moved", 0, x.moved());
        Check.due("minutes STOP", 0, x.minutes(RopeVotes.STOP));
        Check.due("refunds", 0, x.refunds());
        Check.due("hold", false, x.hold(false));
        Check.dueThrow("decided 0", Check.INDEX, () -> x.decided(0));
        Check.dueThrow("decided 1", Check.INDEX, () -> x.decided(1));
        Check.dueThrow("place 0", Check.INDEX, () -> x.place(0));
        Check.dueThrow("arrived 0", Check.INDEX, () -> x.arrived(0));
    }

    private static void newObjectsShareNothing() {
        Check.sentence("Promise 1: Begins at the time 0, without cars; the control has no votes.");
        RopeVotes x = Runs.carAt(600);
        x.board(0, 8, 1000);
        x.cut(0, true);
        x.wind(1, 150);
        x.setLimits(2, 0, 0);
        x.hold(true);
        RopeVotes y = new RopeVotes();
        Check.due("time", 0, y.time());
        Check.due("vote", RopeVotes.NONE, y.vote(3));
        Check.due("the first number", 0, y.putOn());
        Check.due("the first ticket", 0, y.board(0, 1, 1));
        Check.due("pass", 30, y.pass(1));
        Check.due("decided", 72, y.decided(1));
        y.hold(true);
        y.pass(1);
        Check.due("decided while held", 70, y.decided(2));
        Check.due("decided of the other", 72, x.decided(2));
        Check.due("time of the other", 20, x.time());
        Check.due("place of the other", 600, x.place(0));
        Check.due("hold of the other", true, x.hold(true));
    }

    // ---- Promise 2

    private static void putOnAnswersTheNumber() {
        Check.sentence("Promise 2: Returns its number.");
        RopeVotes x = new RopeVotes();
        Check.due("putOn", 0, x.putOn());
        x.pass(2);
        Check.due("putOn", 1, x.putOn());
        x.takeOff(1);
        Check.due("putOn behind a takeOff", 2, x.putOn());
        x.pass(2);
        Check.due("putOn", 3, x.putOn());
    }

    private static void putOnRefusesACarNumber17() {
        Check.sentence("Promise 2: Throws IllegalStateException if there were 16");
        RopeVotes x = sixteenCars();
        Check.dueThrow("putOn number 17, with room for it", Check.STATE, x::putOn);
        RopeVotes y = new RopeVotes();
        for (int car = 0; car < 15; car++) {
            y.putOn();
            y.takeOff(car);
        }
        Check.due("putOn number 16", 15, y.putOn());
        y.takeOff(15);
        Check.dueThrow("putOn number 17, on an empty rope", Check.STATE, y::putOn);
    }

    private static void putOnRefusesAGapBelow60() {
        Check.sentence("Promise 2: Throws IllegalStateException if the gap to some car would be less than 60");
        for (int place = 0; place < 1200; place += 10) {
            RopeVotes x = Runs.carAt(place);
            if (place < 60 || place > 1140) {
                Check.dueThrow("putOn with a car at " + place, Check.STATE, x::putOn);
                Check.due("cars", 1, x.cars());
            } else {
                Check.due("putOn with a car at " + place, 1, x.putOn());
            }
        }
    }

    private static void putOnLooksAtEachCar() {
        Check.sentence("Promise 2: the gap to some car would be less than 60");
        // The one that is near is the first, one between, or the last, in front or behind.
        for (int near = 0; near < 3; near++) {
            RopeVotes x = new RopeVotes();
            for (int car = 0; car < 3; car++) {
                x.putOn();
                Runs.move(x, 300);
            }
            Runs.move(x, (near + 1) * 300 - 50);
            Check.due("place of the near one", 1150, x.place(near));
            Check.dueThrow("putOn with car " + near + " at 1150", Check.STATE, x::putOn);
            Runs.move(x, 100);
            Check.due("place of the near one", 50, x.place(near));
            Check.dueThrow("putOn with car " + near + " at 50", Check.STATE, x::putOn);
            Runs.move(x, 10);
            Check.due("putOn with car " + near + " at 60", 3, x.putOn());
        }
        RopeVotes y = new RopeVotes();
        y.putOn();
        y.takeOff(0);
        Check.due("putOn where a car was taken off", 1, y.putOn());
    }

    // ---- Promise 3

    private static void takeOffAnswersThePartsOfThisCar() {
        Check.sentence("Promise 3: Returns how many parts it has moved.");
        RopeVotes x = new RopeVotes();
        Runs.move(x, 60);
        x.putOn();
        Check.due("takeOff at once", 0, x.takeOff(0));
        x.putOn();
        Runs.move(x, 10);
        Check.due("takeOff at 10", 10, x.takeOff(1));
        x.putOn();
        Runs.move(x, 1200);
        Check.due("takeOff behind a round", 1200, x.takeOff(2));
        x.putOn();
        Runs.move(x, 2410);
        Check.due("takeOff behind two rounds and 10", 2410, x.takeOff(3));
    }

    private static void takeOffRefusesNoSuchCar() {
        Check.sentence("Promise 3: Throws IndexOutOfBoundsException if there is no such car");
        RopeVotes x = new RopeVotes();
        Check.dueThrow("takeOff 0 without cars", Check.INDEX, () -> x.takeOff(0));
        x.putOn();
        x.takeOff(0);
        Check.dueThrow("takeOff again", Check.INDEX, () -> x.takeOff(0));
        x.putOn();
        int[] none = {-1, 2, 15, 16, 17, MAX, MIN};
        for (int car : none) {
            Check.dueThrow("takeOff " + car, Check.INDEX, () -> x.takeOff(car));
        }
        Check.due("takeOff 1", 0, x.takeOff(1));
        RopeVotes y = sixteenCars();
        Check.dueThrow("takeOff 16 of 16", Check.INDEX, () -> y.takeOff(16));
        Runs.move(y, 1140);
        Check.due("takeOff 15 of 16", 1200, y.takeOff(15));
        Check.dueThrow("takeOff 15 again", Check.INDEX, () -> y.takeOff(15));
    }

    private static void takeOffRefusesOtherPlaces() {
        Check.sentence("Promise 3: Throws IllegalStateException if it is not in the bottom station");
        for (int place = 0; place < 1200; place += 10) {
            RopeVotes x = Runs.carAt(place);
            if (place < 20) {
                Check.due("takeOff at " + place, place, x.takeOff(0));
                Check.due("cars", 0, x.cars());
            } else {
                Check.dueThrow("takeOff at " + place, Check.STATE, () -> x.takeOff(0));
                Check.due("cars", 1, x.cars());
            }
        }
    }

    private static void takeOffRefusesPeople() {
        Check.sentence("Promise 3: Throws IllegalStateException if it has people who have not arrived");
        RopeVotes x = new RopeVotes();
        x.putOn();
        x.board(0, 1, 1);
        Check.dueThrow("takeOff with a ticket to the top", Check.STATE, () -> x.takeOff(0));
        Runs.move(x, 600);
        x.board(0, 8, 1);
        Runs.move(x, 600);
        Check.due("people when all have arrived", 0, x.people(0));
        x.board(0, 1, 1);
        Check.dueThrow("takeOff with two that have arrived, one not", Check.STATE, () -> x.takeOff(0));
        Runs.move(x, 1200);
        Check.due("takeOff when it has arrived", 2400, x.takeOff(0));
        RopeVotes y = new RopeVotes();
        y.putOn();
        y.board(0, 1, 1);
        Runs.move(y, 60);
        y.putOn();
        Check.due("takeOff of an empty car with people in another", 0, y.takeOff(1));
    }

    // ---- Promises 4 to 7

    private static void carsOnTheRope() {
        Check.sentence("Promise 4: Returns how many cars are on the rope.");
        RopeVotes x = new RopeVotes();
        Check.due("cars of a new object", 0, x.cars());
        x.putOn();
        Check.due("cars", 1, x.cars());
        x.takeOff(0);
        Check.due("cars when the only one was taken off", 0, x.cars());
        Check.due("cars of a full rope", 16, sixteenCars().cars());
    }

    private static void placeRefusesNoSuchCar() {
        Check.sentence("Promise 5: Throws IndexOutOfBoundsException if there is no such car");
        RopeVotes x = new RopeVotes();
        x.putOn();
        x.takeOff(0);
        x.putOn();
        int[] none = {0, -1, 2, 15, 16, 17, MAX, MIN};
        for (int car : none) {
            Check.dueThrow("place " + car, Check.INDEX, () -> x.place(car));
        }
        Check.due("place 1", 0, x.place(1));
    }

    private static void placeByTurnsIsThePlace() {
        Check.sentence("Promise 6: Returns the same, found from the turns of now, and those when it was put on.");
        int[] starts = {0, 10, 590, 1190, 1200, 1210, 26390};
        for (int start : starts) {
            RopeVotes x = new RopeVotes();
            Runs.move(x, start);
            x.putOn();
            int[] ways = {0, 600, 590, 10};
            int[] places = {0, 600, 1190, 0};
            for (int i = 0; i < ways.length; i++) {
                Runs.move(x, ways[i]);
                Check.due("place put on at " + start, places[i], x.place(0));
                Check.due("placeByTurns put on at " + start, places[i], x.placeByTurns(0));
            }
            Runs.move(x, 10);
            Check.due("place behind a round", 10, x.place(0));
            Check.due("placeByTurns behind a round", 10, x.placeByTurns(0));
        }
    }

    private static void placeByTurnsRefusesNoSuchCar() {
        Check.sentence("Promise 6: Throws IndexOutOfBoundsException if there is no such car");
        RopeVotes x = new RopeVotes();
        x.putOn();
        x.takeOff(0);
        x.putOn();
        int[] none = {0, -1, 2, 15, 16, 17, MAX, MIN};
        for (int car : none) {
            Check.dueThrow("placeByTurns " + car, Check.INDEX, () -> x.placeByTurns(car));
        }
        Check.due("placeByTurns 1", 0, x.placeByTurns(1));
    }

    private static void leastGapOfFewerThanTwo() {
        Check.sentence("Promise 7: Returns the gap; NONE if there are fewer than 2 cars.");
        RopeVotes x = new RopeVotes();
        Check.due("leastGap of 0 cars", RopeVotes.NONE, x.leastGap());
        x.putOn();
        Check.due("leastGap of 1 car", RopeVotes.NONE, x.leastGap());
        x.pass(2);
        x.putOn();
        Check.due("leastGap of 2 cars", 60, x.leastGap());
        x.takeOff(1);
        Check.due("leastGap of 1 car again", RopeVotes.NONE, x.leastGap());
        Runs.move(x, 1140);
        x.takeOff(0);
        Check.due("leastGap of 0 cars again", RopeVotes.NONE, x.leastGap());
    }

    private static void leastGapOfAllPairs() {
        Check.sentence("Promise 7: Returns the least gap between two cars.");
        RopeVotes x = new RopeVotes();
        x.putOn();
        Runs.move(x, 300);
        x.putOn();
        Runs.move(x, 810);
        x.putOn();
        Check.due("leastGap, the first and the last being nearest", 90, x.leastGap());
        x.takeOff(2);
        Check.due("leastGap of the first two", 300, x.leastGap());
        RopeVotes y = new RopeVotes();
        y.putOn();
        Runs.move(y, 70);
        y.putOn();
        Runs.move(y, 500);
        y.putOn();
        Check.due("leastGap, the first two being nearest", 70, y.leastGap());
        Runs.move(y, 60);
        y.putOn();
        Check.due("leastGap, the last two being nearest", 60, y.leastGap());
    }

    /** All cars that there can be, 60 apart, with the last one at 60 and the first one at 960. */
    private static RopeVotes sixteenCars() {
        RopeVotes x = new RopeVotes();
        for (int car = 0; car < 16; car++) {
            Check.due("putOn", car, x.putOn());
            x.pass(2);
        }
        return x;
    }
}
