/** Promises 22 to 27. */
public final class TicketsTest {
    public static void main(String[] args) {
        Check.part(TicketsTest::boardRefusesWrongArguments);
        Check.part(TicketsTest::boardAsksForAStation);
        Check.part(TicketsTest::boardAsksForRoom);
        Check.part(TicketsTest::boardSellsSixtyTickets);
        Check.part(TicketsTest::boardThrowsTheFirstThatApplies);
        Check.part(TicketsTest::peopleAreThoseWhoHaveNotArrived);
        Check.part(TicketsTest::arrivedAtTheTop);
        Check.part(TicketsTest::arrivedAtTheBottom);
        Check.part(TicketsTest::arrivedByPassing);
        Check.part(TicketsTest::hungOutOfStationsOnly);
        Check.part(TicketsTest::hungWhenVotesStopTheRope);
        Check.part(TicketsTest::refundsOfMinutesHung);
        Check.part(TicketsTest::refundIsAtMostTheFare);
        Check.part(TicketsTest::noSuchTicket);
        Check.end();
    }

    private static void boardRefusesWrongArguments() {
        RopeVotes x = new RopeVotes();
        x.putOn();
        int[] wrongPeople = {0, -1, 9, Integer.MAX_VALUE, Integer.MIN_VALUE};
        for (int people : wrongPeople) {
            Check.dueThrow("people " + people, Check.ARGUMENT, () -> x.board(0, people, 1));
        }
        int[] wrongFares = {-1, 1001, Integer.MAX_VALUE, Integer.MIN_VALUE};
        for (int fare : wrongFares) {
            Check.dueThrow("fare " + fare, Check.ARGUMENT, () -> x.board(0, 1, fare));
        }
        Check.due("people behind these", 0, x.people(0));
        Check.due("fare 0", 0, x.board(0, 1, 0));
        Check.due("fare 1000", 1, x.board(0, 7, 1000));
    }

    private static void boardAsksForAStation() {
        RopeVotes x = new RopeVotes();
        x.putOn();
        Runs.slow(x);
        int ticket = 0;
        for (int time = 1; time <= 121; time++) {
            x.pass(1);
            int place = x.place(0);
            boolean isInStation = place < 20 || place >= 600 && place < 620;
            if (isInStation) {
                Check.due("board at " + place, ticket++, x.board(0, 1, 1));
            } else {
                Check.dueThrow("board at " + place, Check.STATE, () -> x.board(0, 1, 1));
            }
        }
        Check.due("tickets sold", 5, ticket);
    }

    private static void boardAsksForRoom() {
        RopeVotes x = new RopeVotes();
        x.putOn();
        Check.due("board 5", 0, x.board(0, 5, 1));
        Check.dueThrow("board 4 more", Check.STATE, () -> x.board(0, 4, 1));
        Check.due("board 3 more", 1, x.board(0, 3, 1));
        Check.dueThrow("board 1 more", Check.STATE, () -> x.board(0, 1, 1));
        x.pass(2);
        x.putOn();
        Check.due("board 8 in another car", 2, x.board(1, 8, 1));
        x.pass(18);
        Check.due("board 8 when all have arrived", 3, x.board(0, 8, 1));
    }

    private static void boardSellsSixtyTickets() {
        RopeVotes x = new RopeVotes();
        x.putOn();
        int ticket = 0;
        while (ticket < 60) {
            for (int i = 0; i < 8 && ticket < 60; i++) {
                Check.due("board", ticket++, x.board(0, 1, 10));
            }
            x.pass(20);
        }
        Check.due("people", 0, x.people(0));
        Check.dueThrow("board number 61", Check.STATE, () -> x.board(0, 1, 10));
        Check.dueThrow("board number 61 of 9", Check.ARGUMENT, () -> x.board(0, 9, 10));
        Check.due("arrived of the last", x.time(), x.arrived(59));
        Check.dueThrow("arrived 60", Check.INDEX, () -> x.arrived(60));
    }

    private static void boardThrowsTheFirstThatApplies() {
        RopeVotes x = new RopeVotes();
        x.putOn();
        x.pass(1);
        Check.dueThrow("wrong car, people, place", Check.INDEX, () -> x.board(1, 0, 0));
        Check.dueThrow("wrong people, place", Check.ARGUMENT, () -> x.board(0, 0, 0));
        Check.dueThrow("wrong fare, place", Check.ARGUMENT, () -> x.board(0, 1, -1));
        Check.dueThrow("wrong place", Check.STATE, () -> x.board(0, 1, 0));
    }

    private static void peopleAreThoseWhoHaveNotArrived() {
        RopeVotes x = new RopeVotes();
        x.putOn();
        Check.due("people of a new car", 0, x.people(0));
        x.board(0, 2, 1);
        x.board(0, 3, 1);
        Check.due("people", 5, x.people(0));
        x.pass(19);
        Check.due("people before the top", 5, x.people(0));
        x.putOn();
        x.board(1, 7, 1);
        Check.due("people of the other", 7, x.people(1));
        Check.due("people", 5, x.people(0));
        x.pass(1);
        Check.due("people at the top", 0, x.people(0));
        Check.due("people of the other", 7, x.people(1));
    }

    private static void arrivedAtTheTop() {
        RopeVotes x = new RopeVotes();
        x.putOn();
        Runs.slow(x);
        x.pass(1);
        x.board(0, 1, 1);
        x.pass(58);
        Check.due("place", 590, x.place(0));
        Check.due("arrived at 590", RopeVotes.NONE, x.arrived(0));
        x.pass(1);
        Check.due("arrived at 600", 60, x.arrived(0));
        x.pass(5);
        Check.due("arrived later", 60, x.arrived(0));
    }

    private static void arrivedAtTheBottom() {
        RopeVotes x = new RopeVotes();
        x.putOn();
        Runs.slow(x);
        x.pass(60);
        x.pass(1);
        Check.due("place", 610, x.place(0));
        x.board(0, 1, 1);
        x.pass(58);
        Check.due("place", 1190, x.place(0));
        Check.due("arrived at 1190", RopeVotes.NONE, x.arrived(0));
        x.pass(1);
        Check.due("arrived at 0", 120, x.arrived(0));
        x.board(0, 1, 1);
        x.pass(59);
        Check.due("arrived before the top", RopeVotes.NONE, x.arrived(1));
        x.pass(1);
        Check.due("arrived at the top", 180, x.arrived(1));
    }

    /** A slow minute first, so that the car goes from 580 to 610, and from 1180 to 10, without a stay at 600 or 0. */
    private static void arrivedByPassing() {
        RopeVotes x = new RopeVotes();
        x.putOn();
        Runs.slow(x);
        x.pass(1);
        x.board(0, 1, 1);
        Runs.all(x, 0);
        x.pass(19);
        Check.due("place", 580, x.place(0));
        Check.due("arrived at 580", RopeVotes.NONE, x.arrived(0));
        x.pass(1);
        Check.due("place", 610, x.place(0));
        Check.due("arrived at 610", 21, x.arrived(0));
        x.board(0, 1, 1);
        x.pass(19);
        Check.due("place", 1180, x.place(0));
        Check.due("arrived at 1180", RopeVotes.NONE, x.arrived(1));
        x.pass(1);
        Check.due("place", 10, x.place(0));
        Check.due("arrived at 10", 41, x.arrived(1));
    }

    private static void hungOutOfStationsOnly() {
        RopeVotes x = new RopeVotes();
        x.putOn();
        Runs.slow(x);
        x.board(0, 1, 1);
        int due = 0;
        for (int minute = 0; minute < 61; minute++) {
            int place = x.place(0);
            x.hold(true);
            x.pass(1);
            if (place >= 20 && place < 600) {
                due++;
            }
            Check.due("hung at " + place, due, x.hung(0));
            x.hold(false);
            x.pass(1);
            Check.due("hung behind a slow minute", due, x.hung(0));
        }
        Check.due("hung when it has arrived", 58, x.hung(0));
        Check.due("arrived", 120, x.arrived(0));
        x.board(0, 1, 1);
        x.hold(true);
        x.pass(1);
        Check.due("hung at 610", 0, x.hung(1));
        x.hold(false);
        x.pass(1);
        x.hold(true);
        x.pass(3);
        Check.due("hung at 620", 3, x.hung(1));
        Check.due("hung of the ticket that has arrived", 58, x.hung(0));
    }

    private static void hungWhenVotesStopTheRope() {
        RopeVotes x = new RopeVotes();
        x.putOn();
        x.board(0, 1, 1);
        x.pass(1);
        Runs.all(x, 70);
        x.pass(4);
        Check.due("hung by the wind", 4, x.hung(0));
        Runs.cutAll(x);
        x.pass(4);
        Check.due("hung without votes", 8, x.hung(0));
    }

    private static void refundsOfMinutesHung() {
        RopeVotes x = new RopeVotes();
        x.putOn();
        x.board(0, 3, 33);
        x.board(0, 1, 7);
        x.pass(1);
        x.hold(true);
        int[] due = {0, 0, 0, 0, 0, 9, 19, 29, 39, 49, 59, 69, 79, 89, 99, 99};
        int[] dueOfOne = {0, 0, 0, 0, 0, 0, 1, 2, 2, 3, 4, 4, 5, 6, 7, 7};
        for (int minute = 0; minute < due.length; minute++) {
            x.pass(1);
            Check.due("refund 0", due[minute], x.refund(0));
            Check.due("refund 1", dueOfOne[minute], x.refund(1));
            Check.due("refunds", due[minute] + dueOfOne[minute], x.refunds());
        }
    }

    private static void refundIsAtMostTheFare() {
        RopeVotes x = new RopeVotes();
        x.putOn();
        x.board(0, 8, 1000);
        x.pass(1);
        x.hold(true);
        for (int i = 0; i < 16; i++) {
            x.pass(60);
        }
        x.pass(18);
        Check.due("hung", 978, x.hung(0));
        Check.due("refund", 8000, x.refund(0));
        x.hold(false);
        x.pass(20);
        Check.due("arrived", 998, x.arrived(0));
        Check.due("refund when it has arrived", 8000, x.refund(0));
        Check.due("refunds", 8000, x.refunds());
    }

    private static void noSuchTicket() {
        RopeVotes x = new RopeVotes();
        x.putOn();
        x.board(0, 1, 1);
        int[] none = {-1, 1, 59, 60, Integer.MAX_VALUE, Integer.MIN_VALUE};
        for (int ticket : none) {
            Check.dueThrow("arrived " + ticket, Check.INDEX, () -> x.arrived(ticket));
            Check.dueThrow("hung " + ticket, Check.INDEX, () -> x.hung(ticket));
            Check.dueThrow("refund " + ticket, Check.INDEX, () -> x.refund(ticket));
        }
        Check.due("arrived 0", RopeVotes.NONE, x.arrived(0));
        Check.due("hung 0", 0, x.hung(0));
        Check.due("refund 0", 0, x.refund(0));
    }
}
