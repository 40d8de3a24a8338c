/** Promises 16 to 21. */
public final class RopeTest {
    public static void main(String[] args) {
        Check.part(RopeTest::holdAnswersWhetherItWas);
        Check.part(RopeTest::aHeldRopeStands);
        Check.part(RopeTest::passAnswersThePartsMoved);
        Check.part(RopeTest::passRefusesWrongMinutes);
        Check.part(RopeTest::passEndsAtTheTime1000);
        Check.part(RopeTest::timeAndTurns);
        Check.part(RopeTest::decidedOfEachMinute);
        Check.part(RopeTest::minutesOfEachSpeed);
        Check.end();
    }

    private static void holdAnswersWhetherItWas() {
        RopeVotes x = new RopeVotes();
        Check.due("hold(true)", false, x.hold(true));
        Check.due("hold(true) again", true, x.hold(true));
        Check.due("hold(false)", true, x.hold(false));
        Check.due("hold(false) again", false, x.hold(false));
    }

    private static void aHeldRopeStands() {
        RopeVotes x = new RopeVotes();
        x.putOn();
        x.hold(true);
        Check.due("pass while held", 0, x.pass(2));
        Check.due("decided while held", 70, x.decided(2));
        Check.due("votes come while held", 127, x.fresh());
        Check.due("place while held", 0, x.place(0));
        x.hold(false);
        Check.due("wouldDecide when let go", RopeVotes.FULL, x.wouldDecide());
        Check.due("pass when let go", 30, x.pass(1));
    }

    private static void passAnswersThePartsMoved() {
        RopeVotes x = new RopeVotes();
        Check.due("pass 2 FULL", 60, x.pass(2));
        Runs.slow(x);
        Check.due("pass 3 SLOW", 30, x.pass(3));
        Runs.all(x, 150);
        Check.due("pass 60 STOP", 0, x.pass(60));
        Check.due("moved", 90, x.moved());
    }

    private static void passRefusesWrongMinutes() {
        RopeVotes x = new RopeVotes();
        int[] wrong = {0, -1, 61, Integer.MAX_VALUE, Integer.MIN_VALUE};
        for (int minutes : wrong) {
            Check.dueThrow("pass " + minutes, Check.ARGUMENT, () -> x.pass(minutes));
        }
        Check.due("time behind these", 0, x.time());
    }

    private static void passEndsAtTheTime1000() {
        RopeVotes x = new RopeVotes();
        for (int i = 0; i < 16; i++) {
            Check.due("pass 60", 1800, x.pass(60));
        }
        Check.dueThrow("pass to 1001", Check.STATE, () -> x.pass(41));
        Check.due("time behind it", 960, x.time());
        Check.due("moved behind it", 28800, x.moved());
        Check.due("pass to 1000", 1200, x.pass(40));
        Check.dueThrow("pass above 1000", Check.STATE, () -> x.pass(1));
        Check.dueThrow("pass 61 above 1000", Check.ARGUMENT, () -> x.pass(61));
        Check.due("time", 1000, x.time());
        Check.due("decided 1000", 72, x.decided(1000));
        Check.dueThrow("decided 1001", Check.INDEX, () -> x.decided(1001));
        Check.due("minutes FULL", 1000, x.minutes(RopeVotes.FULL));
    }

    private static void timeAndTurns() {
        RopeVotes x = new RopeVotes();
        x.pass(1);
        Check.due("time", 1, x.time());
        Check.due("moved", 30, x.moved());
        x.pass(60);
        Check.due("time", 61, x.time());
        Check.due("moved beyond a round", 1830, x.moved());
    }

    private static void decidedOfEachMinute() {
        RopeVotes x = new RopeVotes();
        Check.dueThrow("decided 1 at 0", Check.INDEX, () -> x.decided(1));
        x.pass(1);
        Runs.cutAll(x);
        x.cut(0, false);
        x.cut(1, false);
        x.pass(4);
        x.hold(true);
        x.pass(2);
        int[] due = {72, 72, 72, 72, 52, 50, 50};
        for (int minute = 1; minute <= due.length; minute++) {
            Check.due("decided " + minute, due[minute - 1], x.decided(minute));
        }
        int[] none = {0, -1, 8, 1000, 1001, Integer.MAX_VALUE, Integer.MIN_VALUE};
        for (int minute : none) {
            Check.dueThrow("decided " + minute, Check.INDEX, () -> x.decided(minute));
        }
    }

    private static void minutesOfEachSpeed() {
        RopeVotes x = new RopeVotes();
        x.pass(4);
        Runs.slow(x);
        x.pass(2);
        x.hold(true);
        x.pass(5);
        Check.due("minutes STOP", 5, x.minutes(RopeVotes.STOP));
        Check.due("minutes SLOW", 2, x.minutes(RopeVotes.SLOW));
        Check.due("minutes FULL", 4, x.minutes(RopeVotes.FULL));
        int[] wrong = {-1, 3, Integer.MAX_VALUE, Integer.MIN_VALUE};
        for (int speed : wrong) {
            Check.dueThrow("minutes " + speed, Check.ARGUMENT, () -> x.minutes(speed));
        }
    }
}
