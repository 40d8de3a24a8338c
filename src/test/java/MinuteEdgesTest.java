/** Each sentence of the steps in which a minute passes, and of the promises 16 to 21, that names a boundary case. */
public final class MinuteEdgesTest {
    private static final int STOP = RopeVotes.STOP;
    private static final int SLOW = RopeVotes.SLOW;
    private static final int FULL = RopeVotes.FULL;
    private static final int NONE = RopeVotes.NONE;
    private static final int MIN = Integer.MIN_VALUE;
    private static final int MAX = Integer.MAX_VALUE;

    public static void main(String[] args) {
        Check.part(MinuteEdgesTest::timeIs0AtFirst);
        Check.part(MinuteEdgesTest::theTimeGrowsFirst);
        Check.part(MinuteEdgesTest::votesComeBeforeTheDecision);
        Check.part(MinuteEdgesTest::votesOfTheSameMinuteThatCome);
        Check.part(MinuteEdgesTest::votesWithEarlierTimesFirst);
        Check.part(MinuteEdgesTest::theRopeMovesByTheDecision);
        Check.part(MinuteEdgesTest::ticketsComeLast);
        Check.part(MinuteEdgesTest::aTicketThatPassesTheStationArrives);
        Check.part(MinuteEdgesTest::aTicketIsHungByEachStop);
        Check.part(MinuteEdgesTest::ofManyMinutesEachPassesSo);
        Check.part(MinuteEdgesTest::holdAnswersWhetherItWas);
        Check.part(MinuteEdgesTest::passAnswersTheParts);
        Check.part(MinuteEdgesTest::passTakes1To60);
        Check.part(MinuteEdgesTest::passRefusesMinutes);
        Check.part(MinuteEdgesTest::passRefusesATimeAbove1000);
        Check.part(MinuteEdgesTest::timeAnswers);
        Check.part(MinuteEdgesTest::movedAnswers);
        Check.part(MinuteEdgesTest::decidedAnswersFreshVotesAndSpeed);
        Check.part(MinuteEdgesTest::decidedCountsFreshVotesWhileHeld);
        Check.part(MinuteEdgesTest::decidedRefuses);
        Check.part(MinuteEdgesTest::minutesOfASpeed);
        Check.part(MinuteEdgesTest::minutesRefuses);
        Check.end();
    }

    // ---- how a minute passes

    private static void timeIs0AtFirst() {
        Check.sentence("Time is told in minutes, 0 at first.");
        RopeVotes x = new RopeVotes();
        Check.due("time", 0, x.time());
        x.pass(1);
        Check.due("time", 1, x.time());
        x.pass(60);
        Check.due("time", 61, x.time());
    }

    private static void theTimeGrowsFirst() {
        Check.sentence("1. The time grows by 1.");
        RopeVotes x = new RopeVotes();
        x.putOn();
        x.board(0, 1, 1);
        x.pass(1);
        Check.due("voteTime of the first vote", 1, x.voteTime(0));
        x.pass(19);
        Check.due("arrived in the minute 20", 20, x.arrived(0));
        Check.due("time", 20, x.time());
        Check.due("the minute that is decided last", 72, x.decided(20));
        RopeVotes y = new RopeVotes();
        y.pass(1);
        Runs.cutAll(y);
        y.pass(4);
        Check.due("decided in the minute 4, by votes 3 behind", 72, y.decided(4));
        Check.due("decided in the minute 5, by votes 4 behind", 0, y.decided(5));
    }

    private static void votesComeBeforeTheDecision() {
        Check.sentence("2. Each tower makes its vote. Then all votes that come in this minute come. "
            + "3. The control decides the speed.");
        RopeVotes x = new RopeVotes();
        Check.due("the first minute, by its own votes", 30, x.pass(1));
        x.wind(0, 70);
        Check.due("a minute with a STOP in it", 10, x.pass(1));
        x.wind(1, 70);
        Check.due("a minute with two", 0, x.pass(1));
        Runs.all(x, 0);
        Check.due("a minute without them", 30, x.pass(1));
        int[] due = {72, 71, 70, 72};
        for (int minute = 1; minute <= 4; minute++) {
            Check.due("decided " + minute, due[minute - 1], x.decided(minute));
        }
    }

    private static void votesOfTheSameMinuteThatCome() {
        Check.sentence("Then all votes that come in this minute come");
        RopeVotes x = new RopeVotes();
        Runs.cutAll(x);
        x.cut(3, false);
        int[] due = {10, 30, 52, 72, 72};
        for (int minute = 1; minute <= due.length; minute++) {
            x.pass(1);
            Check.due("decided " + minute, due[minute - 1], x.decided(minute));
        }
        Runs.cutAll(x);
        x.pass(3);
        Check.due("decided 6, by votes on the way", 72, x.decided(6));
        Check.due("decided 8, by those that are still fresh", 72, x.decided(8));
        x.pass(1);
        Check.due("decided 9, when none is", 0, x.decided(9));
    }

    private static void votesWithEarlierTimesFirst() {
        Check.sentence("those with earlier times first, those with the same time by rising towers.");
        // The vote of the minute 1 goes 6 - joined minutes, those of the next ones less: all come in the same minute.
        for (int joined = 0; joined < 5; joined++) {
            RopeVotes x = new RopeVotes();
            Runs.cutAll(x);
            int[] winds = {70, 0, 40, 70, 0, 40};
            int last = 6 - joined;
            for (int minute = 1; minute <= last; minute++) {
                x.cut(joined + minute - 1, false);
                x.wind(6, winds[minute - 1]);
                x.pass(1);
                Check.due("vote 6 before they come", NONE, x.vote(6));
            }
            Runs.cutAll(x);
            x.pass(1);
            Check.due("voteTime of " + last + " that come together", last, x.voteTime(6));
            int due = winds[last - 1] == 70 ? STOP : winds[last - 1] == 40 ? SLOW : FULL;
            Check.due("vote of " + last + " that come together", due, x.vote(6));
        }
    }

    private static void theRopeMovesByTheDecision() {
        Check.sentence("4. The rope moves by that, and the cars with it.");
        RopeVotes x = new RopeVotes();
        x.putOn();
        x.pass(2);
        x.putOn();
        int[] winds = {70, 40, 0, 40, 70};
        int[] parts = {0, 10, 30, 10, 0};
        int way = 0;
        for (int i = 0; i < winds.length; i++) {
            Runs.all(x, winds[i]);
            Check.due("pass", parts[i], x.pass(1));
            way += parts[i];
            Check.due("moved", 60 + way, x.moved());
            Check.due("place 0", 60 + way, x.place(0));
            Check.due("place 1", way, x.place(1));
        }
    }

    private static void ticketsComeLast() {
        Check.sentence("5. Each ticket of a car that has reached or passed the first place of the station to which it "
            + "goes (0 or 600) by that, arrives.");
        RopeVotes x = new RopeVotes();
        x.putOn();
        x.board(0, 8, 1);
        Runs.move(x, 590);
        Check.due("arrived at 590", NONE, x.arrived(0));
        Check.due("people at 590", 8, x.people(0));
        Runs.move(x, 10);
        Check.due("arrived at 600", x.time(), x.arrived(0));
        Check.due("people at 600", 0, x.people(0));
        x.board(0, 8, 1);
        Check.due("arrived at once, of a ticket to the bottom", NONE, x.arrived(1));
        Runs.move(x, 590);
        Check.due("arrived at 1190", NONE, x.arrived(1));
        Check.due("people at 1190", 8, x.people(0));
        Runs.move(x, 10);
        Check.due("arrived at 0", x.time(), x.arrived(1));
        Check.due("people at 0", 0, x.people(0));
    }

    private static void aTicketThatPassesTheStationArrives() {
        Check.sentence("has reached or passed the first place of the station");
        // From 590 and 1190 a full minute leads to the place 20 of the station, which is no part of it.
        int[] befores = {570, 580, 590};
        for (int before : befores) {
            RopeVotes x = new RopeVotes();
            x.putOn();
            x.board(0, 1, 1);
            Runs.move(x, before);
            Check.due("arrived at " + before, NONE, x.arrived(0));
            x.pass(1);
            Check.due("place", before + 30, x.place(0));
            Check.due("arrived at " + (before + 30), x.time(), x.arrived(0));
            Check.due("people", 0, x.people(0));
            RopeVotes y = Runs.carAt(600);
            y.board(0, 1, 1);
            Runs.move(y, before);
            Check.due("arrived at " + (before + 600), NONE, y.arrived(0));
            y.pass(1);
            Check.due("place", before - 570, y.place(0));
            Check.due("arrived at " + (before - 570), y.time(), y.arrived(0));
        }
    }

    private static void aTicketIsHungByEachStop() {
        Check.sentence("Each other ticket that has not arrived is hung for one more minute, if the speed is STOP, "
            + "and its car is in no station.");
        RopeVotes x = new RopeVotes();
        x.putOn();
        x.board(0, 1, 1);
        x.board(0, 1, 1);
        Runs.hang(x, 1);
        Check.due("hung at 0", 0, x.hung(0));
        Runs.move(x, 10);
        Runs.hang(x, 1);
        Check.due("hung at 10", 0, x.hung(0));
        Runs.move(x, 10);
        Check.due("hung in a slow minute to 20", 0, x.hung(0));
        Runs.hang(x, 1);
        Check.due("hung at 20", 1, x.hung(0));
        Check.due("hung at 20, the other ticket", 1, x.hung(1));
        Runs.move(x, 570);
        Check.due("hung in minutes that move", 1, x.hung(0));
        Runs.hang(x, 2);
        Check.due("hung at 590", 3, x.hung(0));
        Runs.move(x, 10);
        Check.due("hung in the minute of the arrival", 3, x.hung(0));
        Runs.hang(x, 2);
        Check.due("hung at 600, when it has arrived", 3, x.hung(0));
        Runs.move(x, 20);
        Runs.hang(x, 2);
        Check.due("hung at 620, when it has arrived", 3, x.hung(0));
        Check.due("hung at 620, the other ticket", 3, x.hung(1));
    }

    private static void ofManyMinutesEachPassesSo() {
        Check.sentence("A minute passes so");
        RopeVotes x = new RopeVotes();
        RopeVotes y = new RopeVotes();
        RopeVotes[] both = {x, y};
        for (RopeVotes one : both) {
            one.putOn();
            one.board(0, 2, 10);
            one.wind(2, 70);
            one.pass(2);
            one.cut(1, true);
            one.cut(2, true);
            one.cut(3, true);
            one.wind(4, 90);
            one.pass(1);
            Runs.cutAll(one);
            one.cut(6, false);
        }
        int parts = 0;
        for (int i = 0; i < 60; i++) {
            parts += x.pass(1);
        }
        Check.due("60 minutes at once", parts, y.pass(60));
        for (int minute = 1; minute <= 63; minute++) {
            Check.due("decided " + minute, x.decided(minute), y.decided(minute));
        }
        Check.due("hung", x.hung(0), y.hung(0));
        Check.due("arrived", x.arrived(0), y.arrived(0));
        Check.due("onTheWay", 21, y.onTheWay());
        for (int tower = 0; tower < 7; tower++) {
            Check.due("voteTime " + tower, 63 - (6 - tower), y.voteTime(tower));
        }
    }

    // ---- Promises 16 and 17

    private static void holdAnswersWhetherItWas() {
        Check.sentence("Promise 16: Returns whether it was.");
        RopeVotes x = new RopeVotes();
        Check.due("let go at first", false, x.hold(false));
        Check.due("held", false, x.hold(true));
        Check.due("held again", true, x.hold(true));
        x.pass(60);
        Check.due("let go", true, x.hold(false));
        Check.due("let go again", false, x.hold(false));
        Check.due("moved while held", 0, x.moved());
    }

    private static void passAnswersTheParts() {
        Check.sentence("Promise 17: Returns how many parts the rope moves in them.");
        RopeVotes x = new RopeVotes();
        Check.due("60 full minutes", 1800, x.pass(60));
        Runs.cutAll(x);
        Check.due("3 full ones, then 5 without votes", 90, x.pass(8));
        Check.due("60 without votes", 0, x.pass(60));
        Runs.joinAll(x);
        Runs.slow(x);
        Check.due("60 slow ones", 600, x.pass(60));
        x.hold(true);
        Check.due("while held", 0, x.pass(60));
        Check.due("moved", 2490, x.moved());
    }

    private static void passTakes1To60() {
        Check.sentence("Promise 17: minutes: 1 to 60");
        for (int minutes = 1; minutes <= 60; minutes++) {
            RopeVotes x = new RopeVotes();
            Check.due("pass " + minutes, minutes * 30, x.pass(minutes));
            Check.due("time", minutes, x.time());
        }
    }

    private static void passRefusesMinutes() {
        Check.sentence("Promise 17: Throws IllegalArgumentException if minutes is out of range");
        RopeVotes x = new RopeVotes();
        int[] wrong = {0, -1, 61, 1000, MAX, MIN};
        for (int minutes : wrong) {
            Check.dueThrow("pass " + minutes + " at 0", Check.ARGUMENT, () -> x.pass(minutes));
        }
        passTo(x, 1000);
        for (int minutes : wrong) {
            Check.dueThrow("pass " + minutes + " at 1000", Check.ARGUMENT, () -> x.pass(minutes));
        }
    }

    private static void passRefusesATimeAbove1000() {
        Check.sentence("Promise 17: Throws IllegalStateException if the time would be above 1000");
        for (int minutes = 1; minutes <= 60; minutes++) {
            int some = minutes;
            RopeVotes x = new RopeVotes();
            passTo(x, 1001 - minutes);
            Check.dueThrow("pass " + minutes + " to 1001", Check.STATE, () -> x.pass(some));
            Check.due("time behind it", 1001 - minutes, x.time());
            RopeVotes y = new RopeVotes();
            passTo(y, 1000 - minutes);
            Check.due("pass " + minutes + " to 1000", 30 * minutes, y.pass(minutes));
            Check.due("time behind it", 1000, y.time());
            Check.dueThrow("pass 1 at 1000", Check.STATE, () -> y.pass(1));
            Check.dueThrow("pass 60 at 1000", Check.STATE, () -> y.pass(60));
        }
    }

    private static void passTo(RopeVotes x, int time) {
        for (int left = time; left > 0; left -= 60) {
            x.pass(Math.min(60, left));
        }
    }

    // ---- Promises 18 to 21

    private static void timeAnswers() {
        Check.sentence("Promise 18: Returns the time.");
        RopeVotes x = new RopeVotes();
        Check.due("time", 0, x.time());
        Runs.hang(x, 5);
        Check.due("time while held", 5, x.time());
        Runs.cutAll(x);
        x.pass(5);
        Check.due("time without votes", 10, x.time());
        x.pass(60);
        Check.due("time", 70, x.time());
        passTo(x, 930);
        Check.due("the last time", 1000, x.time());
    }

    private static void movedAnswers() {
        Check.sentence("Promise 19: Returns the turns.");
        RopeVotes x = new RopeVotes();
        Check.due("moved", 0, x.moved());
        x.pass(39);
        Check.due("moved", 1170, x.moved());
        x.pass(1);
        Check.due("moved a round", 1200, x.moved());
        x.pass(1);
        Check.due("moved beyond a round", 1230, x.moved());
        x.hold(true);
        x.pass(10);
        Check.due("moved while held", 1230, x.moved());
    }

    private static void decidedAnswersFreshVotesAndSpeed() {
        Check.sentence("Promise 20: Returns 10 times how many votes were fresh then, and the speed, added.");
        for (int fresh = 0; fresh <= 7; fresh++) {
            int[] winds = {0, 40, 70};
            for (int i = 0; i < winds.length; i++) {
                RopeVotes x = new RopeVotes();
                Runs.all(x, winds[i]);
                for (int tower = fresh; tower < 7; tower++) {
                    x.cut(tower, true);
                }
                x.pass(1);
                int due = 10 * fresh + (fresh >= 4 ? 2 - i : STOP);
                Check.due("decided by " + fresh + " at the wind " + winds[i], due, x.decided(1));
                Runs.cutAll(x);
                x.pass(60);
                Check.due("the same, told an hour later", due, x.decided(1));
            }
        }
    }

    private static void decidedCountsFreshVotesWhileHeld() {
        Check.sentence("Promise 20: Returns 10 times how many votes were fresh then, and the speed, added.");
        for (int fresh = 0; fresh <= 7; fresh++) {
            RopeVotes x = new RopeVotes();
            for (int tower = fresh; tower < 7; tower++) {
                x.cut(tower, true);
            }
            x.hold(true);
            x.pass(1);
            Check.due("decided while held, by " + fresh, 10 * fresh, x.decided(1));
            Check.due("fresh while held", (1 << fresh) - 1, x.fresh());
        }
    }

    private static void decidedRefuses() {
        Check.sentence("Promise 20: minute: 1 to the time; "
            + "Throws IndexOutOfBoundsException if there is no such minute");
        RopeVotes x = new RopeVotes();
        int[] never = {0, -1, MIN, 1001, 1002, MAX};
        for (int minute : never) {
            Check.dueThrow("decided " + minute + " at 0", Check.INDEX, () -> x.decided(minute));
        }
        Check.dueThrow("decided 1 at 0", Check.INDEX, () -> x.decided(1));
        x.pass(1);
        Check.due("decided 1 at 1", 72, x.decided(1));
        Check.dueThrow("decided 2 at 1", Check.INDEX, () -> x.decided(2));
        Check.dueThrow("decided 0 at 1", Check.INDEX, () -> x.decided(0));
        passTo(x, 998);
        Check.due("decided 999 at 999", 72, x.decided(999));
        Check.dueThrow("decided 1000 at 999", Check.INDEX, () -> x.decided(1000));
        x.wind(0, 70);
        x.pass(1);
        Check.due("decided 1000 at 1000", 71, x.decided(1000));
        Check.due("decided 1 at 1000", 72, x.decided(1));
        for (int minute : never) {
            Check.dueThrow("decided " + minute + " at 1000", Check.INDEX, () -> x.decided(minute));
        }
    }

    private static void minutesOfASpeed() {
        Check.sentence("Promise 21: Returns in how many minutes a speed was decided.");
        RopeVotes x = new RopeVotes();
        dueMinutes(x, "at first", 0, 0, 0);
        x.pass(1);
        dueMinutes(x, "after a full one", 0, 0, 1);
        x.wind(0, 70);
        x.pass(2);
        dueMinutes(x, "after two slow ones", 0, 2, 1);
        x.hold(true);
        x.pass(60);
        dueMinutes(x, "after an hour held", 60, 2, 1);
        x.hold(false);
        Runs.cutAll(x);
        x.pass(4);
        dueMinutes(x, "after three slow ones, and one without votes", 61, 5, 1);
        Runs.joinAll(x);
        Runs.all(x, 0);
        passTo(x, 933);
        dueMinutes(x, "at the last time", 61, 5, 934);
    }

    private static void dueMinutes(RopeVotes x, String when, int stop, int slow, int full) {
        Check.due("minutes STOP " + when, stop, x.minutes(STOP));
        Check.due("minutes SLOW " + when, slow, x.minutes(SLOW));
        Check.due("minutes FULL " + when, full, x.minutes(FULL));
        Check.due("all minutes " + when, x.time(), stop + slow + full);
    }

    private static void minutesRefuses() {
        Check.sentence("Promise 21: Throws IllegalArgumentException if speed is out of range");
        RopeVotes x = new RopeVotes();
        int[] wrong = {-1, 3, 10, MAX, MIN};
        for (int speed : wrong) {
            Check.dueThrow("minutes " + speed + " at 0", Check.ARGUMENT, () -> x.minutes(speed));
        }
        x.pass(1);
        for (int speed : wrong) {
            Check.dueThrow("minutes " + speed + " at 1", Check.ARGUMENT, () -> x.minutes(speed));
        }
    }
}
