/** Each sentence of 'Towers and votes', and of the promises 8 to 15, that names a boundary case. */
public final class VoteEdgesTest {
    private static final int STOP = RopeVotes.STOP;
    private static final int SLOW = RopeVotes.SLOW;
    private static final int FULL = RopeVotes.FULL;
    private static final int NONE = RopeVotes.NONE;
    private static final int MIN = Integer.MIN_VALUE;
    private static final int MAX = Integer.MAX_VALUE;
    private static final int[] NO_TOWERS = {-1, 7, 8, MAX, MIN};

    public static void main(String[] args) {
        Check.part(VoteEdgesTest::towersAre0To6);
        Check.part(VoteEdgesTest::aWindIs0AtFirst);
        Check.part(VoteEdgesTest::limitsAre40And70AtFirst);
        Check.part(VoteEdgesTest::votesAtEachWindAndLimit);
        Check.part(VoteEdgesTest::noTowerIsCutAtFirst);
        Check.part(VoteEdgesTest::aVoteHasItsMinuteAsItsTime);
        Check.part(VoteEdgesTest::aVoteComesInThatMinute);
        Check.part(VoteEdgesTest::aVoteGoesToTheNearestTower);
        Check.part(VoteEdgesTest::aVoteComesAsManyMinutesLater);
        Check.part(VoteEdgesTest::eachSetOfCutTowers);
        Check.part(VoteEdgesTest::aVoteIsLostIfAllAreCut);
        Check.part(VoteEdgesTest::cuttingLaterDoesNotMatter);
        Check.part(VoteEdgesTest::aFirstVoteIsTaken);
        Check.part(VoteEdgesTest::aLaterVoteIsTaken);
        Check.part(VoteEdgesTest::anEarlierVoteIsNotTaken);
        Check.part(VoteEdgesTest::freshUpTo3Minutes);
        Check.part(VoteEdgesTest::freshOnArrival);
        Check.part(VoteEdgesTest::fullNeedsFourFull);
        Check.part(VoteEdgesTest::fullNeedsNoStop);
        Check.part(VoteEdgesTest::slowNeedsFourFullOrSlow);
        Check.part(VoteEdgesTest::slowAllowsOneStop);
        Check.part(VoteEdgesTest::eachSpreadOfVotes);
        Check.part(VoteEdgesTest::freshVotesAlone);
        Check.part(VoteEdgesTest::heldItDecidesStop);
        Check.part(VoteEdgesTest::windAnswersTheVote);
        Check.part(VoteEdgesTest::windRefuses);
        Check.part(VoteEdgesTest::setLimitsAnswersTheVote);
        Check.part(VoteEdgesTest::setLimitsRefuses);
        Check.part(VoteEdgesTest::cutCounts);
        Check.part(VoteEdgesTest::voteOfATower);
        Check.part(VoteEdgesTest::voteTimeOfATower);
        Check.part(VoteEdgesTest::freshIsASet);
        Check.part(VoteEdgesTest::onTheWayCounts);
        Check.part(VoteEdgesTest::wouldDecideNow);
        Check.end();
    }

    // ---- Towers and votes

    private static void towersAre0To6() {
        Check.sentence("Towers are 0 to 6.");
        RopeVotes x = new RopeVotes();
        for (int tower = 0; tower < 7; tower++) {
            Check.due("wind " + tower, SLOW, x.wind(tower, 50));
            Check.due("setLimits " + tower, STOP, x.setLimits(tower, 50, 50));
            Check.due("cut " + tower, 1, x.cut(tower, true));
            Check.due("join " + tower, 0, x.cut(tower, false));
            Check.due("vote " + tower, NONE, x.vote(tower));
            Check.due("voteTime " + tower, NONE, x.voteTime(tower));
        }
        x.pass(1);
        Check.due("decided by seven", 70, x.decided(1));
    }

    private static void aWindIs0AtFirst() {
        Check.sentence("A tower has a wind, 0 at first");
        for (int tower = 0; tower < 7; tower++) {
            RopeVotes x = new RopeVotes();
            Check.due("0 is below 1", FULL, x.setLimits(tower, 1, 1));
            Check.due("0 is not below 0", SLOW, x.setLimits(tower, 0, 1));
            Check.due("0 is not below 0 and 0", STOP, x.setLimits(tower, 0, 0));
        }
    }

    private static void limitsAre40And70AtFirst() {
        Check.sentence("two limits, at first 40 and 70");
        for (int tower = 0; tower < 7; tower++) {
            RopeVotes x = new RopeVotes();
            for (int wind = 0; wind <= 150; wind++) {
                int due = wind < 40 ? FULL : wind < 70 ? SLOW : STOP;
                Check.due("wind " + tower + " " + wind, due, x.wind(tower, wind));
            }
        }
    }

    private static void votesAtEachWindAndLimit() {
        Check.sentence("it votes FULL if the wind is below the first, SLOW if it is below the second, "
            + "but not below the first, and STOP otherwise.");
        int[] limits = {0, 1, 2, 75, 149, 150};
        for (int slow : limits) {
            for (int stop : limits) {
                if (slow <= stop) {
                    RopeVotes x = new RopeVotes();
                    x.setLimits(3, slow, stop);
                    for (int wind = 0; wind <= 150; wind++) {
                        int due = wind < slow ? FULL : wind < stop ? SLOW : STOP;
                        Check.due("wind " + wind + " at " + slow + " " + stop, due, x.wind(3, wind));
                    }
                }
            }
        }
    }

    private static void noTowerIsCutAtFirst() {
        Check.sentence("It is cut off or not, at first not.");
        for (int tower = 0; tower < 7; tower++) {
            RopeVotes x = new RopeVotes();
            Check.due("cut " + tower, 1, x.cut(tower, true));
            RopeVotes y = new RopeVotes();
            Check.due("join " + tower, 0, y.cut(tower, false));
            y.pass(1);
            Check.due("onTheWay when none was cut", 0, y.onTheWay());
            Check.due("voteTime when none was cut", 1, y.voteTime(tower));
        }
    }

    private static void aVoteHasItsMinuteAsItsTime() {
        Check.sentence("Each minute each tower makes a vote, which has this minute as its time.");
        RopeVotes x = new RopeVotes();
        int[] minutes = {1, 1, 60, 3};
        int time = 0;
        for (int some : minutes) {
            x.pass(some);
            time += some;
            for (int tower = 0; tower < 7; tower++) {
                Check.due("voteTime " + tower + " at " + time, time, x.voteTime(tower));
            }
        }
        RopeVotes y = new RopeVotes();
        for (int i = 0; i < 16; i++) {
            y.pass(60);
        }
        y.pass(40);
        Check.due("voteTime 6 at 1000", 1000, y.voteTime(6));
    }

    private static void aVoteComesInThatMinute() {
        Check.sentence("A vote of a tower that is not cut off comes to the control in that minute.");
        for (int tower = 0; tower < 7; tower++) {
            RopeVotes x = new RopeVotes();
            Runs.cutAll(x);
            x.cut(tower, false);
            x.wind(tower, 70);
            x.pass(1);
            Check.due("vote " + tower, STOP, x.vote(tower));
            Check.due("voteTime " + tower, 1, x.voteTime(tower));
            Check.due("fresh", 1 << tower, x.fresh());
            Check.due("onTheWay", 6, x.onTheWay());
        }
    }

    private static void aVoteGoesToTheNearestTower() {
        Check.sentence("One of a tower that is cut off goes to the nearest tower that is not");
        // The vote of tower 3, with two towers that are not cut off.
        int[][] joined = {{0, 6}, {0, 5}, {1, 6}, {2, 6}, {0, 4}, {0, 1}, {5, 6}, {2, 4}};
        int[] ways = {3, 2, 2, 1, 1, 2, 2, 1};
        for (int i = 0; i < ways.length; i++) {
            RopeVotes x = new RopeVotes();
            Runs.cutAll(x);
            x.cut(joined[i][0], false);
            x.cut(joined[i][1], false);
            dueWay(x, 3, ways[i], "by " + joined[i][0] + " and " + joined[i][1]);
        }
    }

    private static void aVoteComesAsManyMinutesLater() {
        Check.sentence("and comes as many minutes later as their numbers differ");
        for (int tower = 0; tower < 7; tower++) {
            for (int joined = 0; joined < 7; joined++) {
                RopeVotes x = new RopeVotes();
                Runs.cutAll(x);
                x.cut(joined, false);
                dueWay(x, tower, Math.abs(tower - joined), "by " + joined);
            }
        }
    }

    /** The vote that the tower makes in the next minute, the first one, comes as many minutes later. */
    private static void dueWay(RopeVotes x, int tower, int way, String how) {
        x.pass(1);
        for (int later = 0; later < way; later++) {
            Check.due("voteTime " + tower + " " + how + ", " + later + " later", NONE, x.voteTime(tower));
            x.pass(1);
        }
        Check.due("voteTime " + tower + " " + how + ", " + way + " later", 1, x.voteTime(tower));
        x.pass(1);
        Check.due("voteTime " + tower + " " + how + ", the next one", 2, x.voteTime(tower));
    }

    private static void eachSetOfCutTowers() {
        Check.sentence("goes to the nearest tower that is not, and comes as many minutes later as their numbers "
            + "differ; if all towers are cut off when it is made, it is lost.");
        for (int set = 0; set < 128; set++) {
            RopeVotes x = new RopeVotes();
            for (int tower = 0; tower < 7; tower++) {
                x.cut(tower, (set >> tower & 1) != 0);
            }
            x.pass(1);
            Runs.cutAll(x);
            for (int later = 0; later < 8; later++) {
                int left = 0;
                for (int tower = 0; tower < 7; tower++) {
                    int way = wayFrom(tower, set);
                    int due = way <= later ? 1 : NONE;
                    Check.due("set " + set + ": voteTime " + tower + ", " + later + " later", due, x.voteTime(tower));
                    left += way > later && way < 7 ? 1 : 0;
                }
                Check.due("set " + set + ": onTheWay, " + later + " later", left, x.onTheWay());
                x.pass(1);
            }
        }
    }

    /** To the nearest tower that is not in the set; 100 if all are. */
    private static int wayFrom(int tower, int set) {
        int least = 100;
        for (int other = 0; other < 7; other++) {
            if ((set >> other & 1) == 0) {
                least = Math.min(least, Math.abs(tower - other));
            }
        }
        return least;
    }

    private static void aVoteIsLostIfAllAreCut() {
        Check.sentence("if all towers are cut off when it is made, it is lost.");
        RopeVotes x = new RopeVotes();
        Runs.cutAll(x);
        x.pass(1);
        Check.due("onTheWay when all are cut off", 0, x.onTheWay());
        Check.due("decided without votes", 0, x.decided(1));
        x.pass(7);
        Check.due("onTheWay later", 0, x.onTheWay());
        for (int tower = 0; tower < 7; tower++) {
            Check.due("vote " + tower, NONE, x.vote(tower));
        }
        x.cut(6, false);
        x.pass(1);
        Check.due("voteTime 6 when it was joined", 9, x.voteTime(6));
        Check.due("onTheWay with one that is not cut off", 6, x.onTheWay());
        for (int minute = 0; minute < 6; minute++) {
            x.pass(1);
        }
        Check.due("voteTime 0: none of the lost ones, but the first behind them", 9, x.voteTime(0));
    }

    private static void cuttingLaterDoesNotMatter() {
        Check.sentence("(Whether towers are cut off later does not matter.)");
        RopeVotes x = new RopeVotes();
        Runs.cutAll(x);
        x.cut(0, false);
        x.pass(1);
        Runs.cutAll(x);
        x.pass(5);
        Check.due("vote 6 before it comes, all cut off", NONE, x.vote(6));
        x.pass(1);
        Check.due("voteTime 6 when it comes, all cut off", 1, x.voteTime(6));
        RopeVotes y = new RopeVotes();
        Runs.cutAll(y);
        y.cut(0, false);
        y.pass(1);
        Runs.joinAll(y);
        Check.due("onTheWay when all are joined", 6, y.onTheWay());
        Check.due("vote 6 when all are joined", NONE, y.vote(6));
        y.pass(1);
        Check.due("onTheWay a minute later", 5, y.onTheWay());
        y.pass(4);
        Check.due("onTheWay before the last one comes", 1, y.onTheWay());
        y.pass(1);
        Check.due("onTheWay when it has come", 0, y.onTheWay());
    }

    private static void aFirstVoteIsTaken() {
        Check.sentence("When a vote comes, the control takes it, if it has none of this tower");
        RopeVotes x = new RopeVotes();
        Runs.cutAll(x);
        x.cut(1, false);
        x.wind(6, 70);
        x.pass(1);
        Runs.cutAll(x);
        x.pass(4);
        Check.due("vote 6 before", NONE, x.vote(6));
        x.pass(1);
        Check.due("vote 6, which is not fresh any more", STOP, x.vote(6));
        Check.due("voteTime 6", 1, x.voteTime(6));
    }

    private static void aLaterVoteIsTaken() {
        Check.sentence("When a vote comes, the control takes it, if it has none of this tower, or an earlier one.");
        RopeVotes x = new RopeVotes();
        int[] winds = {0, 70, 40, 0};
        int[] votes = {FULL, STOP, SLOW, FULL};
        for (int i = 0; i < winds.length; i++) {
            x.wind(5, winds[i]);
            x.pass(1);
            Check.due("vote 5", votes[i], x.vote(5));
            Check.due("voteTime 5", i + 1, x.voteTime(5));
        }
    }

    private static void anEarlierVoteIsNotTaken() {
        Check.sentence("When a vote comes, the control takes it, if it has none of this tower, or an earlier one.");
        for (int way = 1; way < 7; way++) {
            RopeVotes x = new RopeVotes();
            Runs.cutAll(x);
            x.cut(6 - way, false);
            x.wind(6, 70);
            x.pass(1);
            x.cut(6, false);
            x.wind(6, 40);
            x.pass(1);
            Check.due("voteTime of the later vote", 2, x.voteTime(6));
            Runs.cutAll(x);
            x.pass(way);
            Check.due("vote when the one from " + way + " towers away has come", SLOW, x.vote(6));
            Check.due("voteTime when it has come", 2, x.voteTime(6));
            x.pass(7);
            Check.due("vote when all have come", SLOW, x.vote(6));
            Check.due("it is not on the way any more", 0, x.onTheWay());
        }
    }

    private static void freshUpTo3Minutes() {
        Check.sentence("A vote that it has is fresh up to 3 minutes behind its time.");
        RopeVotes x = new RopeVotes();
        x.pass(1);
        Runs.cutAll(x);
        int[] due = {127, 127, 127, 127, 0, 0};
        for (int later = 0; later < due.length; later++) {
            Check.due("fresh " + later + " minutes behind", due[later], x.fresh());
            int speed = due[later] == 0 ? STOP : FULL;
            Check.due("wouldDecide " + later + " minutes behind", speed, x.wouldDecide());
            Check.due("decided " + later + " minutes behind", due[later] == 0 ? 0 : 72, x.decided(1 + later));
            x.pass(1);
        }
        Check.due("vote when none is fresh", FULL, x.vote(0));
    }

    private static void freshOnArrival() {
        Check.sentence("A vote that it has is fresh up to 3 minutes behind its time.");
        for (int way = 0; way < 7; way++) {
            RopeVotes x = new RopeVotes();
            Runs.cutAll(x);
            x.cut(6 - way, false);
            x.pass(1);
            Runs.cutAll(x);
            for (int later = 0; later < 8; later++) {
                boolean isFresh = later >= way && later <= 3;
                Check.due("fresh from " + way + " away, " + later + " later", isFresh, (x.fresh() >> 6 & 1) == 1);
                x.pass(1);
            }
        }
        RopeVotes y = new RopeVotes();
        Runs.cutAll(y);
        y.cut(0, false);
        y.pass(60);
        Check.due("fresh of those up to 3 away", 15, y.fresh());
        Check.due("decided by those up to 3 away", 42, y.decided(60));
    }

    // ---- what the control decides

    private static void fullNeedsFourFull() {
        Check.sentence("FULL, if 4 of them or more are FULL, and none of them is STOP");
        Check.due("3 FULL", STOP, speed(3, 0, 0));
        Check.due("4 FULL", FULL, speed(4, 0, 0));
        Check.due("7 FULL", FULL, speed(7, 0, 0));
        Check.due("3 FULL, 4 SLOW", SLOW, speed(3, 4, 0));
        Check.due("4 FULL, 3 SLOW", FULL, speed(4, 3, 0));
        Check.due("4 FULL, 2 SLOW, 1 not fresh", FULL, speed(4, 2, 0));
    }

    private static void fullNeedsNoStop() {
        Check.sentence("FULL, if 4 of them or more are FULL, and none of them is STOP");
        Check.due("6 FULL, 1 STOP", SLOW, speed(6, 0, 1));
        Check.due("4 FULL, 1 STOP", SLOW, speed(4, 0, 1));
        Check.due("4 FULL, 2 SLOW, 1 STOP", SLOW, speed(4, 2, 1));
        Check.due("5 FULL, 2 STOP", STOP, speed(5, 0, 2));
    }

    private static void slowNeedsFourFullOrSlow() {
        Check.sentence("otherwise SLOW, if 4 of them or more are FULL or SLOW");
        Check.due("4 SLOW", SLOW, speed(0, 4, 0));
        Check.due("7 SLOW", SLOW, speed(0, 7, 0));
        Check.due("3 SLOW", STOP, speed(0, 3, 0));
        Check.due("3 FULL, 1 SLOW", SLOW, speed(3, 1, 0));
        Check.due("1 FULL, 3 SLOW", SLOW, speed(1, 3, 0));
        Check.due("2 FULL, 1 SLOW", STOP, speed(2, 1, 0));
        Check.due("1 FULL, 2 SLOW, 1 STOP", STOP, speed(1, 2, 1));
    }

    private static void slowAllowsOneStop() {
        Check.sentence("and at most one of them is STOP; otherwise STOP.");
        Check.due("4 SLOW, 1 STOP", SLOW, speed(0, 4, 1));
        Check.due("6 SLOW, 1 STOP", SLOW, speed(0, 6, 1));
        Check.due("4 SLOW, 2 STOP", STOP, speed(0, 4, 2));
        Check.due("5 SLOW, 2 STOP", STOP, speed(0, 5, 2));
        Check.due("3 FULL, 2 SLOW, 2 STOP", STOP, speed(3, 2, 2));
        Check.due("4 SLOW, 3 STOP", STOP, speed(0, 4, 3));
        Check.due("7 STOP", STOP, speed(0, 0, 7));
        Check.due("none at all", STOP, speed(0, 0, 0));
    }

    /** What is decided by so many votes of each kind; of the other towers the control has none. */
    private static int speed(int full, int slow, int stop) {
        RopeVotes x = new RopeVotes();
        for (int tower = 0; tower < 7; tower++) {
            x.wind(tower, tower < full ? 0 : tower < full + slow ? 40 : 70);
            x.cut(tower, tower >= full + slow + stop);
        }
        x.pass(1);
        int decided = x.decided(1);
        Check.due("votes that are fresh", full + slow + stop, decided / 10);
        Check.due("wouldDecide as decided", decided % 10, x.wouldDecide());
        return decided % 10;
    }

    /** Each tower with FULL, SLOW, STOP or no vote. */
    private static void eachSpreadOfVotes() {
        Check.sentence("FULL, if 4 of them or more are FULL, and none of them is STOP; otherwise SLOW, if 4 of them or "
            + "more are FULL or SLOW, and at most one of them is STOP; otherwise STOP.");
        for (int spread = 0; spread < 1 << 14; spread++) {
            RopeVotes x = new RopeVotes();
            int[] counts = new int[4];
            for (int tower = 0; tower < 7; tower++) {
                int kind = spread >> 2 * tower & 3;
                counts[kind]++;
                x.wind(tower, 70 - 30 * Math.min(kind, 2));
                x.cut(tower, kind == 3);
            }
            int due = counts[FULL] >= 4 && counts[STOP] == 0 ? FULL
                : counts[FULL] + counts[SLOW] >= 4 && counts[STOP] <= 1 ? SLOW : STOP;
            x.pass(1);
            Check.due("spread " + spread + ": decided", 10 * (7 - counts[3]) + due, x.decided(1));
        }
    }

    private static void freshVotesAlone() {
        Check.sentence("The control decides by the fresh votes alone");
        int[] fullByTower4 = {0, 0, 0, 40, 0, 40, 40};
        fourStayFresh("a FULL that is not fresh", fullByTower4, FULL, SLOW);
        int[] slowByTower4 = {40, 40, 40, 70, 40, 40, 40};
        fourStayFresh("a SLOW that is not fresh", slowByTower4, SLOW, STOP);
        int[] oneStop = {0, 0, 0, 0, 70, 0, 0};
        fourStayFresh("a STOP that is not fresh", oneStop, SLOW, FULL);
        int[] twoStops = {40, 0, 0, 0, 0, 70, 70};
        fourStayFresh("two STOPs that are not fresh", twoStops, STOP, SLOW);
    }

    /** The votes of the towers 0 to 3 come again and again, in time; those of 4 to 6 grow old. */
    private static void fourStayFresh(String what, int[] winds, int before, int behind) {
        RopeVotes x = new RopeVotes();
        for (int tower = 0; tower < 7; tower++) {
            x.wind(tower, winds[tower]);
        }
        x.pass(1);
        Runs.cutAll(x);
        x.cut(0, false);
        x.pass(20);
        for (int minute = 1; minute <= 21; minute++) {
            int due = minute <= 4 ? 70 + before : 40 + behind;
            Check.due(what + ": decided " + minute, due, x.decided(minute));
        }
        Check.due(what + ": fresh", 15, x.fresh());
        Check.due(what + ": wouldDecide", behind, x.wouldDecide());
        Check.due(what + ": voteTime 4", 17, x.voteTime(4));
    }

    private static void heldItDecidesStop() {
        Check.sentence("While the rope is held, it decides STOP.");
        int[] winds = {0, 40, 70};
        for (int i = 0; i < winds.length; i++) {
            RopeVotes x = new RopeVotes();
            Runs.all(x, winds[i]);
            x.hold(true);
            Check.due("pass while held", 0, x.pass(1));
            Check.due("decided while held", 70 + STOP, x.decided(1));
            Check.due("wouldDecide while held", STOP, x.wouldDecide());
            x.hold(true);
            x.pass(1);
            Check.due("decided while held twice", 70 + STOP, x.decided(2));
            x.hold(false);
            Check.due("wouldDecide when let go", 2 - i, x.wouldDecide());
            x.pass(1);
            Check.due("decided when let go", 70 + 2 - i, x.decided(3));
            Check.due("decided before", 70 + STOP, x.decided(2));
        }
    }

    // ---- Promises 8 to 15

    private static void windAnswersTheVote() {
        Check.sentence("Promise 8: wind: 0 to 150; Returns what it votes by that.");
        RopeVotes x = new RopeVotes();
        for (int tower = 0; tower < 7; tower++) {
            Check.due("wind 0", FULL, x.wind(tower, 0));
            Check.due("wind 150", STOP, x.wind(tower, 150));
            Check.due("wind 50", SLOW, x.wind(tower, 50));
            Check.due("vote before a minute has passed", NONE, x.vote(tower));
        }
        x.wind(2, 0);
        x.pass(1);
        for (int tower = 0; tower < 7; tower++) {
            Check.due("vote " + tower, tower == 2 ? FULL : SLOW, x.vote(tower));
        }
    }

    private static void windRefuses() {
        Check.sentence("Promise 8: Throws IndexOutOfBoundsException if there is no such tower, "
            + "IllegalArgumentException if wind is out of range");
        RopeVotes x = new RopeVotes();
        int[] wrong = {-1, 151, MAX, MIN};
        for (int value : wrong) {
            for (int tower = 0; tower < 7; tower++) {
                int one = tower;
                Check.dueThrow("wind " + tower + " " + value, Check.ARGUMENT, () -> x.wind(one, value));
            }
        }
        for (int tower : NO_TOWERS) {
            Check.dueThrow("wind " + tower + " 0", Check.INDEX, () -> x.wind(tower, 0));
            Check.dueThrow("wind " + tower + " 150", Check.INDEX, () -> x.wind(tower, 150));
        }
    }

    private static void setLimitsAnswersTheVote() {
        Check.sentence("Promise 9: slow: 0 to 150; stop: slow to 150; Returns what it votes by that.");
        RopeVotes x = new RopeVotes();
        Check.due("the least limits", STOP, x.setLimits(0, 0, 0));
        Check.due("the widest limits", SLOW, x.setLimits(0, 0, 150));
        Check.due("the greatest limits", FULL, x.setLimits(0, 150, 150));
        x.wind(0, 150);
        Check.due("the greatest limits and wind", STOP, x.setLimits(0, 150, 150));
        x.wind(0, 149);
        Check.due("the greatest limits, 1 below", FULL, x.setLimits(0, 150, 150));
        Check.due("the first one at the wind", SLOW, x.setLimits(0, 149, 150));
        Check.due("both at the wind", STOP, x.setLimits(0, 149, 149));
        x.wind(0, 50);
        Check.due("both 1 above the wind", FULL, x.setLimits(0, 51, 51));
        Check.due("another tower's limits", SLOW, x.wind(1, 40));
        Check.due("another tower's limits", FULL, x.wind(6, 39));
    }

    private static void setLimitsRefuses() {
        Check.sentence("Promise 9: Throws IndexOutOfBoundsException if there is no such tower, "
            + "IllegalArgumentException if slow or stop is out of range");
        RopeVotes x = new RopeVotes();
        int[][] wrong = {{-1, 0}, {-1, 150}, {-1, -1}, {0, -1}, {0, 151}, {150, 149}, {150, 151}, {151, 151},
            {151, 150}, {1, 0}, {75, 74}, {MIN, 0}, {0, MAX}, {MAX, MAX}, {MIN, MIN}, {MAX, MIN}, {MIN, MAX}, {0, MIN},
            {MAX, 0}};
        for (int[] limits : wrong) {
            Check.dueThrow("setLimits " + limits[0] + " " + limits[1], Check.ARGUMENT,
                () -> x.setLimits(0, limits[0], limits[1]));
        }
        for (int tower : NO_TOWERS) {
            Check.dueThrow("setLimits " + tower, Check.INDEX, () -> x.setLimits(tower, 40, 70));
        }
    }

    private static void cutCounts() {
        Check.sentence("Promise 10: Returns how many towers are cut off then.");
        RopeVotes x = new RopeVotes();
        for (int tower = 0; tower < 7; tower++) {
            Check.due("cut " + tower, tower + 1, x.cut(tower, true));
            Check.due("cut " + tower + " again", tower + 1, x.cut(tower, true));
        }
        for (int tower = 6; tower >= 0; tower--) {
            Check.due("join " + tower, tower, x.cut(tower, false));
            Check.due("join " + tower + " again", tower, x.cut(tower, false));
        }
        Check.sentence("Promise 10: Throws IndexOutOfBoundsException if there is no such tower");
        for (int tower : NO_TOWERS) {
            Check.dueThrow("cut " + tower, Check.INDEX, () -> x.cut(tower, true));
            Check.dueThrow("join " + tower, Check.INDEX, () -> x.cut(tower, false));
        }
        Check.due("cut behind these", 1, x.cut(6, true));
    }

    private static void voteOfATower() {
        Check.sentence("Promise 11: Returns the vote that the control has of a tower, fresh or not; NONE.");
        int[] winds = {0, 40, 70};
        for (int i = 0; i < winds.length; i++) {
            for (int tower = 0; tower < 7; tower++) {
                RopeVotes x = new RopeVotes();
                x.wind(tower, winds[i]);
                Check.due("vote " + tower + " at first", NONE, x.vote(tower));
                x.pass(1);
                Check.due("vote " + tower, 2 - i, x.vote(tower));
                Runs.cutAll(x);
                x.wind(tower, 70 - winds[i]);
                x.pass(60);
                Check.due("vote " + tower + ", not fresh", 2 - i, x.vote(tower));
            }
        }
        RopeVotes x = new RopeVotes();
        x.pass(1);
        Check.sentence("Promise 11: Throws IndexOutOfBoundsException if there is no such tower");
        for (int tower : NO_TOWERS) {
            Check.dueThrow("vote " + tower, Check.INDEX, () -> x.vote(tower));
        }
    }

    private static void voteTimeOfATower() {
        Check.sentence("Promise 12: Returns the time of that vote; NONE.");
        RopeVotes x = new RopeVotes();
        Check.due("voteTime at first", NONE, x.voteTime(0));
        Runs.cutAll(x);
        x.cut(0, false);
        x.pass(60);
        for (int tower = 0; tower < 7; tower++) {
            Check.due("voteTime " + tower, 60 - tower, x.voteTime(tower));
        }
        x.cut(0, true);
        x.pass(60);
        for (int tower = 0; tower < 7; tower++) {
            Check.due("voteTime " + tower + ", not fresh", 60, x.voteTime(tower));
        }
        Check.sentence("Promise 12: Throws IndexOutOfBoundsException if there is no such tower");
        for (int tower : NO_TOWERS) {
            Check.dueThrow("voteTime " + tower, Check.INDEX, () -> x.voteTime(tower));
        }
    }

    private static void freshIsASet() {
        Check.sentence("Promise 13: Returns the towers of which the control has a fresh vote: a set, "
            + "bit t for the tower t.");
        for (int set = 0; set < 128; set++) {
            RopeVotes x = new RopeVotes();
            for (int tower = 0; tower < 7; tower++) {
                x.cut(tower, (set >> tower & 1) == 0);
            }
            Check.due("fresh before a minute has passed", 0, x.fresh());
            x.pass(1);
            Check.due("fresh of the towers not cut off", set, x.fresh());
        }
    }

    private static void onTheWayCounts() {
        Check.sentence("Promise 14: Returns how many votes are on the way.");
        RopeVotes x = new RopeVotes();
        Check.due("onTheWay of a new object", 0, x.onTheWay());
        x.pass(1);
        Check.due("onTheWay with none cut off", 0, x.onTheWay());
        Runs.cutAll(x);
        x.cut(6, false);
        Check.due("onTheWay before a minute has passed", 0, x.onTheWay());
        int[] growing = {6, 11, 15, 18, 20, 21, 21, 21};
        for (int i = 0; i < growing.length; i++) {
            x.pass(1);
            Check.due("onTheWay after " + (i + 1), growing[i], x.onTheWay());
        }
        x.cut(6, true);
        int[] falling = {15, 10, 6, 3, 1, 0, 0};
        for (int i = 0; i < falling.length; i++) {
            x.pass(1);
            Check.due("onTheWay " + (i + 1) + " after all were cut off", falling[i], x.onTheWay());
        }
    }

    private static void wouldDecideNow() {
        Check.sentence("Promise 15: Returns what the control would decide now, by the votes that it has.");
        RopeVotes x = new RopeVotes();
        Check.due("wouldDecide without votes", STOP, x.wouldDecide());
        x.pass(1);
        Check.due("wouldDecide", FULL, x.wouldDecide());
        Runs.all(x, 150);
        Runs.cutAll(x);
        Check.due("wouldDecide by the votes that it has, not by the winds", FULL, x.wouldDecide());
        x.hold(true);
        Check.due("wouldDecide while held", STOP, x.wouldDecide());
        x.hold(false);
        Check.due("wouldDecide when let go", FULL, x.wouldDecide());
        x.pass(3);
        Check.due("wouldDecide 3 minutes behind", FULL, x.wouldDecide());
        x.pass(1);
        Check.due("wouldDecide 4 minutes behind", STOP, x.wouldDecide());
        Check.due("time, which a question does not change", 5, x.time());
        Check.due("minutes STOP", 1, x.minutes(STOP));
        RopeVotes y = new RopeVotes();
        Runs.cutAll(y);
        y.cut(0, false);
        y.pass(3);
        Check.due("wouldDecide with votes on the way that are not yet here", STOP, y.wouldDecide());
        y.pass(1);
        Check.due("wouldDecide with the fourth vote here", FULL, y.wouldDecide());
    }
}
