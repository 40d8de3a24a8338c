/** Promises 1 to 7. */
public final class CarsTest {
    public static void main(String[] args) {
        Check.part(CarsTest::aNewObject);
        Check.part(CarsTest::putOnKeepsTheGap);
        Check.part(CarsTest::putOnLooksAtBothWays);
        Check.part(CarsTest::putOnCountsCarsThatWereTakenOff);
        Check.part(CarsTest::takeOffAnswersThePartsMoved);
        Check.part(CarsTest::takeOffAsksForTheBottomStation);
        Check.part(CarsTest::takeOffAsksForAnEmptyCar);
        Check.part(CarsTest::carsAreCounted);
        Check.part(CarsTest::placesGoRoundTheLoop);
        Check.part(CarsTest::leastGapTakesTheLesserWay);
        Check.part(CarsTest::noSuchCar);
        Check.end();
    }

    private static void aNewObject() {
        RopeVotes x = new RopeVotes();
        Check.due("new: time", 0, x.time());
        Check.due("new: moved", 0, x.moved());
        Check.due("new: cars", 0, x.cars());
        Check.due("new: leastGap", RopeVotes.NONE, x.leastGap());
        Check.due("new: fresh", 0, x.fresh());
        Check.due("new: onTheWay", 0, x.onTheWay());
        Check.due("new: wouldDecide", RopeVotes.STOP, x.wouldDecide());
        Check.due("new: refunds", 0, x.refunds());
        for (int tower = 0; tower < 7; tower++) {
            Check.due("new: vote " + tower, RopeVotes.NONE, x.vote(tower));
            Check.due("new: voteTime " + tower, RopeVotes.NONE, x.voteTime(tower));
        }
        for (int speed = 0; speed < 3; speed++) {
            Check.due("new: minutes " + speed, 0, x.minutes(speed));
        }
        Check.due("new: hold", false, x.hold(false));
    }

    private static void putOnKeepsTheGap() {
        RopeVotes x = new RopeVotes();
        Check.due("first putOn", 0, x.putOn());
        Check.due("its place", 0, x.place(0));
        Check.dueThrow("putOn at once again", Check.STATE, x::putOn);
        Runs.slow(x);
        x.pass(5);
        Check.dueThrow("putOn at a gap of 50", Check.STATE, x::putOn);
        Check.due("cars behind a putOn that threw", 1, x.cars());
        x.pass(1);
        Check.due("putOn at a gap of 60", 1, x.putOn());
    }

    private static void putOnLooksAtBothWays() {
        RopeVotes x = new RopeVotes();
        x.putOn();
        x.pass(38);
        Check.due("place", 1140, x.place(0));
        Check.due("putOn at a gap of 60 over 1199", 1, x.putOn());
        RopeVotes y = new RopeVotes();
        y.putOn();
        y.pass(39);
        Check.due("place", 1170, y.place(0));
        Check.dueThrow("putOn at a gap of 30 over 1199", Check.STATE, y::putOn);
    }

    private static void putOnCountsCarsThatWereTakenOff() {
        RopeVotes x = new RopeVotes();
        for (int car = 0; car < 16; car++) {
            Check.due("putOn", car, x.putOn());
            if (car == 3 || car == 9) {
                x.takeOff(car);
            }
            x.pass(2);
        }
        Check.due("cars", 14, x.cars());
        Check.dueThrow("putOn number 17", Check.STATE, x::putOn);
        Check.due("place of the last", 60, x.place(15));
        RopeVotes y = new RopeVotes();
        for (int car = 0; car < 16; car++) {
            Check.due("putOn", car, y.putOn());
            Check.due("takeOff at once", 0, y.takeOff(car));
        }
        Check.dueThrow("putOn number 17 on an empty rope", Check.STATE, y::putOn);
        Check.due("cars", 0, y.cars());
    }

    private static void takeOffAnswersThePartsMoved() {
        RopeVotes x = new RopeVotes();
        x.pass(7);
        x.putOn();
        x.pass(40);
        x.pass(40);
        Check.due("takeOff behind two rounds", 2400, x.takeOff(0));
        Check.due("putOn behind a takeOff", 1, x.putOn());
        Runs.slow(x);
        x.pass(1);
        Check.due("takeOff at 10", 10, x.takeOff(1));
    }

    private static void takeOffAsksForTheBottomStation() {
        RopeVotes x = new RopeVotes();
        x.putOn();
        Runs.slow(x);
        x.pass(2);
        Check.due("place", 20, x.place(0));
        Check.dueThrow("takeOff at 20", Check.STATE, () -> x.takeOff(0));
        x.pass(58);
        Check.due("place", 600, x.place(0));
        Check.dueThrow("takeOff at 600", Check.STATE, () -> x.takeOff(0));
        x.pass(59);
        Check.due("place", 1190, x.place(0));
        Check.dueThrow("takeOff at 1190", Check.STATE, () -> x.takeOff(0));
        Check.due("cars", 1, x.cars());
        x.pass(2);
        Check.due("place", 10, x.place(0));
        Check.due("takeOff at 10", 1210, x.takeOff(0));
    }

    private static void takeOffAsksForAnEmptyCar() {
        RopeVotes x = new RopeVotes();
        x.putOn();
        x.board(0, 1, 0);
        Check.dueThrow("takeOff with people", Check.STATE, () -> x.takeOff(0));
        x.pass(40);
        Check.due("takeOff when they have arrived", 1200, x.takeOff(0));
    }

    private static void carsAreCounted() {
        RopeVotes x = new RopeVotes();
        x.putOn();
        x.pass(2);
        x.putOn();
        x.pass(2);
        x.putOn();
        Check.due("cars", 3, x.cars());
        x.takeOff(2);
        Check.due("cars", 2, x.cars());
    }

    private static void placesGoRoundTheLoop() {
        RopeVotes x = new RopeVotes();
        x.pass(1);
        x.putOn();
        x.pass(2);
        x.putOn();
        for (int round = 0; round < 90; round++) {
            x.pass(1);
            int way = 30 * (round + 1);
            Check.due("place", (way + 60) % 1200, x.place(0));
            Check.due("placeByTurns", (way + 60) % 1200, x.placeByTurns(0));
            Check.due("place", way % 1200, x.place(1));
            Check.due("placeByTurns", way % 1200, x.placeByTurns(1));
        }
    }

    private static void leastGapTakesTheLesserWay() {
        RopeVotes x = new RopeVotes();
        x.putOn();
        Check.due("leastGap of one", RopeVotes.NONE, x.leastGap());
        x.pass(10);
        x.putOn();
        Check.due("leastGap", 300, x.leastGap());
        x.pass(27);
        x.putOn();
        Check.due("leastGap over 1199", 90, x.leastGap());
        x.takeOff(2);
        Check.due("leastGap without the third", 300, x.leastGap());
        x.pass(13);
        x.takeOff(1);
        Check.due("leastGap of one again", RopeVotes.NONE, x.leastGap());
        RopeVotes y = new RopeVotes();
        y.putOn();
        y.pass(20);
        y.putOn();
        Check.due("the greatest gap", 600, y.leastGap());
    }

    private static void noSuchCar() {
        RopeVotes x = new RopeVotes();
        x.putOn();
        x.takeOff(0);
        x.putOn();
        x.pass(1);
        int[] none = {0, 2, 15, 16, -1, Integer.MAX_VALUE, Integer.MIN_VALUE};
        for (int car : none) {
            Check.dueThrow("takeOff " + car, Check.INDEX, () -> x.takeOff(car));
            Check.dueThrow("place " + car, Check.INDEX, () -> x.place(car));
            Check.dueThrow("placeByTurns " + car, Check.INDEX, () -> x.placeByTurns(car));
            Check.dueThrow("people " + car, Check.INDEX, () -> x.people(car));
            Check.dueThrow("board " + car, Check.INDEX, () -> x.board(car, 0, -1));
        }
        Check.due("place", 30, x.place(1));
    }
}
