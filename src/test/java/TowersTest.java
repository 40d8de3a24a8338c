/** Promises 8 to 15. */
public final class TowersTest {
    public static void main(String[] args) {
        Check.part(TowersTest::windAgainstTheFirstLimits);
        Check.part(TowersTest::setLimitsAnswersTheVote);
        Check.part(TowersTest::wrongWindsAndLimits);
        Check.part(TowersTest::cutCountsTowers);
        Check.part(TowersTest::aVoteComesInItsMinute);
        Check.part(TowersTest::aVoteGoesToTheNearestTower);
        Check.part(TowersTest::anEarlierVoteIsNotTaken);
        Check.part(TowersTest::votesOfOneTowerThatComeTogether);
        Check.part(TowersTest::lostVotes);
        Check.part(TowersTest::cuttingLaterDoesNotMatter);
        Check.part(TowersTest::votesAreFreshForThreeMinutes);
        Check.part(TowersTest::quorums);
        Check.part(TowersTest::aStopThatIsNotFreshDoesNotCount);
        Check.part(TowersTest::noSuchTower);
        Check.end();
    }

    private static void windAgainstTheFirstLimits() {
        RopeVotes x = new RopeVotes();
        int[] winds = {0, 39, 40, 69, 70, 150};
        int[] votes = {2, 2, 1, 1, 0, 0};
        for (int tower = 0; tower < 7; tower++) {
            for (int i = 0; i < winds.length; i++) {
                Check.due("wind " + tower + " " + winds[i], votes[i], x.wind(tower, winds[i]));
            }
        }
        Check.due("vote before a minute has passed", RopeVotes.NONE, x.vote(0));
    }

    private static void setLimitsAnswersTheVote() {
        RopeVotes x = new RopeVotes();
        Check.due("setLimits 0 0 at 0", RopeVotes.STOP, x.setLimits(2, 0, 0));
        Check.due("setLimits 0 1 at 0", RopeVotes.SLOW, x.setLimits(2, 0, 1));
        Check.due("setLimits 1 1 at 0", RopeVotes.FULL, x.setLimits(2, 1, 1));
        x.wind(2, 149);
        Check.due("setLimits 150 150 at 149", RopeVotes.FULL, x.setLimits(2, 150, 150));
        Check.due("setLimits 149 150 at 149", RopeVotes.SLOW, x.setLimits(2, 149, 150));
        Check.due("wind 150 at these", RopeVotes.STOP, x.wind(2, 150));
        Check.due("another tower's limits", RopeVotes.SLOW, x.wind(1, 40));
        x.pass(1);
        Check.due("vote 2", RopeVotes.STOP, x.vote(2));
        Check.due("vote 1", RopeVotes.SLOW, x.vote(1));
    }

    private static void wrongWindsAndLimits() {
        RopeVotes x = new RopeVotes();
        int[] wrong = {-1, 151, Integer.MAX_VALUE, Integer.MIN_VALUE};
        for (int value : wrong) {
            Check.dueThrow("wind " + value, Check.ARGUMENT, () -> x.wind(0, value));
            Check.dueThrow("slow " + value, Check.ARGUMENT, () -> x.setLimits(0, value, 150));
            Check.dueThrow("stop " + value, Check.ARGUMENT, () -> x.setLimits(0, 0, value));
            Check.dueThrow("both " + value, Check.ARGUMENT, () -> x.setLimits(0, value, value));
        }
        Check.dueThrow("stop below slow", Check.ARGUMENT, () -> x.setLimits(0, 20, 19));
        Check.due("wind 39 at limits that no throw changed", RopeVotes.FULL, x.wind(0, 39));
        Check.due("wind 69 at limits that no throw changed", RopeVotes.SLOW, x.wind(0, 69));
    }

    private static void cutCountsTowers() {
        RopeVotes x = new RopeVotes();
        Check.due("cut 0", 1, x.cut(0, true));
        Check.due("cut 0 again", 1, x.cut(0, true));
        Check.due("cut 6", 2, x.cut(6, true));
        Check.due("join 1", 2, x.cut(1, false));
        Check.due("join 0", 1, x.cut(0, false));
        Check.due("join 6", 0, x.cut(6, false));
    }

    private static void aVoteComesInItsMinute() {
        RopeVotes x = new RopeVotes();
        x.wind(3, 100);
        x.wind(4, 50);
        x.pass(1);
        Check.due("vote 0", RopeVotes.FULL, x.vote(0));
        Check.due("vote 3", RopeVotes.STOP, x.vote(3));
        Check.due("vote 4", RopeVotes.SLOW, x.vote(4));
        Check.due("voteTime 3", 1, x.voteTime(3));
        Check.due("onTheWay", 0, x.onTheWay());
        Check.due("fresh", 127, x.fresh());
        x.wind(3, 0);
        Check.due("vote 3 before the next minute", RopeVotes.STOP, x.vote(3));
        x.pass(1);
        Check.due("vote 3 behind it", RopeVotes.FULL, x.vote(3));
        Check.due("voteTime 3", 2, x.voteTime(3));
    }

    private static void aVoteGoesToTheNearestTower() {
        for (int joined = 0; joined < 7; joined++) {
            for (int other = joined; other < 7; other++) {
                RopeVotes x = new RopeVotes();
                Runs.cutAll(x);
                x.cut(joined, false);
                x.cut(other, false);
                for (int time = 1; time <= 8; time++) {
                    x.pass(1);
                    int late = 0;
                    for (int tower = 0; tower < 7; tower++) {
                        int way = Math.min(Math.abs(tower - joined), Math.abs(tower - other));
                        int madeAt = time - way >= 1 ? time - way : RopeVotes.NONE;
                        Check.due("voteTime " + tower + " at " + time, madeAt, x.voteTime(tower));
                        late += Math.min(way, time);
                    }
                    Check.due("onTheWay at " + time, late, x.onTheWay());
                }
            }
        }
    }

    private static void anEarlierVoteIsNotTaken() {
        RopeVotes x = new RopeVotes();
        for (int tower = 3; tower < 7; tower++) {
            x.cut(tower, true);
        }
        x.wind(6, 100);
        x.pass(1);
        x.cut(6, false);
        x.wind(6, 50);
        x.pass(1);
        Check.due("voteTime of the newer vote", 2, x.voteTime(6));
        Runs.cutAll(x);
        x.pass(3);
        Check.due("vote when the earlier one has come", RopeVotes.SLOW, x.vote(6));
        Check.due("voteTime when the earlier one has come", 2, x.voteTime(6));
    }

    private static void votesOfOneTowerThatComeTogether() {
        RopeVotes x = new RopeVotes();
        for (int tower = 3; tower < 7; tower++) {
            x.cut(tower, true);
        }
        x.wind(6, 100);
        x.pass(1);
        x.cut(3, false);
        x.wind(6, 50);
        x.pass(1);
        Check.due("onTheWay of both minutes", 6, x.onTheWay());
        Runs.cutAll(x);
        x.pass(2);
        Check.due("onTheWay before both come", 2, x.onTheWay());
        Check.due("voteTime before both come", RopeVotes.NONE, x.voteTime(6));
        x.pass(1);
        Check.due("vote of the newer one", RopeVotes.SLOW, x.vote(6));
        Check.due("voteTime of the newer one", 2, x.voteTime(6));
        Check.due("onTheWay", 0, x.onTheWay());
    }

    private static void lostVotes() {
        RopeVotes x = new RopeVotes();
        Runs.cutAll(x);
        x.pass(1);
        Check.due("onTheWay of lost votes", 0, x.onTheWay());
        x.cut(0, false);
        x.wind(1, 100);
        x.pass(2);
        Check.due("voteTime 1", 2, x.voteTime(1));
        Check.due("voteTime 2", RopeVotes.NONE, x.voteTime(2));
        x.pass(1);
        Check.due("voteTime 2", 2, x.voteTime(2));
        Check.due("vote 1", RopeVotes.STOP, x.vote(1));
    }

    private static void cuttingLaterDoesNotMatter() {
        RopeVotes x = new RopeVotes();
        x.cut(5, true);
        x.cut(6, true);
        x.wind(6, 60);
        x.pass(1);
        Check.due("onTheWay", 2, x.onTheWay());
        Runs.cutAll(x);
        x.pass(1);
        Check.due("voteTime 5", 1, x.voteTime(5));
        Check.due("voteTime 6", RopeVotes.NONE, x.voteTime(6));
        x.pass(1);
        Check.due("voteTime 6", 1, x.voteTime(6));
        Check.due("vote 6", RopeVotes.SLOW, x.vote(6));
    }

    private static void votesAreFreshForThreeMinutes() {
        RopeVotes x = new RopeVotes();
        x.pass(1);
        Runs.cutAll(x);
        x.pass(3);
        Check.due("fresh 3 minutes behind", 127, x.fresh());
        Check.due("wouldDecide 3 minutes behind", RopeVotes.FULL, x.wouldDecide());
        x.pass(1);
        Check.due("fresh 4 minutes behind", 0, x.fresh());
        Check.due("wouldDecide 4 minutes behind", RopeVotes.STOP, x.wouldDecide());
        Check.due("vote 4 minutes behind", RopeVotes.FULL, x.vote(0));
        Check.due("voteTime 4 minutes behind", 1, x.voteTime(0));
        RopeVotes y = new RopeVotes();
        Runs.cutAll(y);
        y.cut(4, false);
        y.pass(7);
        Check.due("fresh by the way to tower 4", 126, y.fresh());
    }

    /** Every way to spread seven votes over FULL, SLOW, STOP and none that is fresh. */
    private static void quorums() {
        for (int full = 0; full <= 7; full++) {
            for (int slow = 0; full + slow <= 7; slow++) {
                for (int stop = 0; full + slow + stop <= 7; stop++) {
                    quorum(full, slow, stop);
                }
            }
        }
    }

    private static void quorum(int full, int slow, int stop) {
        RopeVotes x = new RopeVotes();
        for (int tower = 0; tower < full + slow + stop; tower++) {
            x.wind(tower, tower < full ? 0 : tower < full + slow ? 40 : 70);
        }
        for (int tower = full + slow + stop; tower < 7; tower++) {
            x.cut(tower, true);
        }
        int due = stop == 0 && full >= 4 ? 2 : stop <= 1 && full + slow >= 4 ? 1 : 0;
        x.pass(1);
        String what = full + " FULL, " + slow + " SLOW, " + stop + " STOP: ";
        Check.due(what + "wouldDecide", due, x.wouldDecide());
        Check.due(what + "decided", 10 * (full + slow + stop) + due, x.decided(1));
        Check.due(what + "moved", due == 2 ? 30 : 10 * due, x.moved());
        x.hold(true);
        Check.due(what + "wouldDecide while held", RopeVotes.STOP, x.wouldDecide());
    }

    private static void aStopThatIsNotFreshDoesNotCount() {
        RopeVotes x = new RopeVotes();
        Runs.cutAll(x);
        for (int tower = 0; tower < 4; tower++) {
            x.cut(tower, false);
        }
        x.wind(6, 100);
        x.pass(1);
        x.wind(6, 0);
        x.pass(3);
        Check.due("vote 6", RopeVotes.STOP, x.vote(6));
        Check.due("decided with a STOP 3 minutes behind", 71, x.decided(4));
        Runs.cutAll(x);
        x.cut(0, false);
        x.cut(1, false);
        x.cut(2, false);
        x.cut(3, false);
        x.pass(1);
        Check.due("decided with a newer vote", 72, x.decided(5));
        RopeVotes y = new RopeVotes();
        y.wind(6, 100);
        y.pass(1);
        Check.due("decided with a STOP", 71, y.decided(1));
        y.cut(6, true);
        y.cut(5, true);
        y.cut(4, true);
        y.cut(3, true);
        y.cut(2, true);
        y.pass(4);
        Check.due("vote 6", RopeVotes.STOP, y.vote(6));
        Check.due("decided with a STOP 3 minutes behind", 71, y.decided(4));
        Check.due("decided with a STOP 4 minutes behind", 52, y.decided(5));
    }

    private static void noSuchTower() {
        RopeVotes x = new RopeVotes();
        int[] none = {-1, 7, Integer.MAX_VALUE, Integer.MIN_VALUE};
        for (int tower : none) {
            Check.dueThrow("wind", Check.INDEX, () -> x.wind(tower, -1));
            Check.dueThrow("setLimits", Check.INDEX, () -> x.setLimits(tower, -1, 0));
            Check.dueThrow("cut", Check.INDEX, () -> x.cut(tower, true));
            Check.dueThrow("vote", Check.INDEX, () -> x.vote(tower));
            Check.dueThrow("voteTime", Check.INDEX, () -> x.voteTime(tower));
        }
        Check.due("cut behind these", 0, x.cut(0, false));
    }
}
