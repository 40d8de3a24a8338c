/** All that can be asked of a rope, as one text. */
final class Answers {
    private final StringBuilder text = new StringBuilder();

    private Answers() {
    }

    /** Asks some 110 things, and changes nothing. */
    static String now(RopeVotes x) {
        Answers all = new Answers();
        all.tell("cars", x::cars);
        all.tell("leastGap", x::leastGap);
        all.tell("fresh", x::fresh);
        all.tell("onTheWay", x::onTheWay);
        all.tell("wouldDecide", x::wouldDecide);
        all.tell("time", x::time);
        all.tell("moved", x::moved);
        all.tell("refunds", x::refunds);
        for (int speed = 0; speed < 3; speed++) {
            int one = speed;
            all.tell("minutes", () -> x.minutes(one));
        }
        for (int tower = 0; tower < 7; tower++) {
            int one = tower;
            all.tell("vote", () -> x.vote(one));
            all.tell("voteTime", () -> x.voteTime(one));
        }
        for (int car = 0; car < 17; car++) {
            int one = car;
            all.tell("place", () -> x.place(one));
            all.tell("placeByTurns", () -> x.placeByTurns(one));
            all.tell("people", () -> x.people(one));
        }
        int[] tickets = {0, 1, 2, 3, 4, 58, 59, 60};
        for (int ticket : tickets) {
            all.tell("arrived", () -> x.arrived(ticket));
            all.tell("hung", () -> x.hung(ticket));
            all.tell("refund", () -> x.refund(ticket));
        }
        int time = x.time();
        for (int minute = time - 1; minute <= time + 1; minute++) {
            int one = minute;
            all.tell("decided", () -> x.decided(one));
        }
        return all.text.toString();
    }

    /** Goes on with the rope so that what can't be asked shows: the winds, limits and cuts, and the next numbers. */
    static String later(RopeVotes x) {
        Answers all = new Answers();
        all.tell("pass", () -> x.pass(1));
        all.tell("onTheWay", x::onTheWay);
        for (int tower = 0; tower < 7; tower++) {
            int one = tower;
            all.tell("vote", () -> x.vote(one));
        }
        all.tell("held", () -> x.hold(false) ? 1 : 0);
        all.tell("putOn", x::putOn);
        all.tell("takeOff", () -> x.takeOff(0));
        for (int car = 0; car < 17; car++) {
            int one = car;
            all.tell("board", () -> x.board(one, 1, 1));
        }
        int[] winds = {19, 20, 39, 40, 69, 70, 89, 90};
        for (int tower = 0; tower < 7; tower++) {
            int one = tower;
            for (int wind : winds) {
                all.tell("wind", () -> x.wind(one, wind));
            }
            all.tell("cut", () -> x.cut(one, true));
        }
        all.tell("pass", () -> x.pass(10));
        return all.text.append(now(x)).toString();
    }

    private void tell(String what, Check.Call call) {
        text.append(what).append(' ').append(Check.outcome(call)).append("; ");
    }
}
