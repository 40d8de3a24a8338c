/** Each sentence of 'Tickets', and of the promises 22 to 27, that names a boundary case. */
public final class TicketEdgesTest {
    private static final int NONE = RopeVotes.NONE;
    private static final int MIN = Integer.MIN_VALUE;
    private static final int MAX = Integer.MAX_VALUE;

    public static void main(String[] args) {
        Check.part(TicketEdgesTest::ticketsAreNumberedFrom0);
        Check.part(TicketEdgesTest::atMost60Tickets);
        Check.part(TicketEdgesTest::aTicketIsToTheOtherStation);
        Check.part(TicketEdgesTest::aTicketIsForACarInAStation);
        Check.part(TicketEdgesTest::aCarHasRoomFor8);
        Check.part(TicketEdgesTest::roomIsForThoseWhoHaveNotArrived);
        Check.part(TicketEdgesTest::minutesBeyond5AreRefunded);
        Check.part(TicketEdgesTest::aRefundIsRoundedDown);
        Check.part(TicketEdgesTest::aRefundIsNotMoreThanTheFare);
        Check.part(TicketEdgesTest::boardTakes1To8People);
        Check.part(TicketEdgesTest::boardTakesFaresOf0To1000);
        Check.part(TicketEdgesTest::boardRefusesNoSuchCar);
        Check.part(TicketEdgesTest::boardRefusesPeopleAndFares);
        Check.part(TicketEdgesTest::boardRefusesNoStation);
        Check.part(TicketEdgesTest::boardRefusesNoRoom);
        Check.part(TicketEdgesTest::boardRefusesATicketNumber61);
        Check.part(TicketEdgesTest::peopleWhoHaveNotArrived);
        Check.part(TicketEdgesTest::peopleRefusesNoSuchCar);
        Check.part(TicketEdgesTest::arrivedAnswersTheTime);
        Check.part(TicketEdgesTest::hungAnswersTheMinutes);
        Check.part(TicketEdgesTest::refundGrowsUntilTheArrival);
        Check.part(TicketEdgesTest::noSuchTicket);
        Check.part(TicketEdgesTest::refundsOfAllTickets);
        Check.part(TicketEdgesTest::refundsOfManyTickets);
        Check.end();
    }

    // ---- Tickets

    private static void ticketsAreNumberedFrom0() {
        Check.sentence("Tickets are numbered from 0");
        RopeVotes x = new RopeVotes();
        x.putOn();
        Check.dueThrow("arrived 0 without tickets", Check.INDEX, () -> x.arrived(0));
        Check.due("the first number", 0, x.board(0, 1, 1));
        Check.due("the next number", 1, x.board(0, 1, 1));
        Runs.move(x, 60);
        x.putOn();
        Check.due("the number in another car", 2, x.board(1, 1, 1));
        Check.due("arrived 2", NONE, x.arrived(2));
        Check.dueThrow("arrived 3", Check.INDEX, () -> x.arrived(3));
    }

    private static void atMost60Tickets() {
        Check.sentence("at most 60");
        RopeVotes x = sixtyTickets();
        for (int ticket = 0; ticket < 60; ticket++) {
            Check.due("arrived " + ticket, 20 * (ticket / 8 + 1), x.arrived(ticket));
        }
        Check.dueThrow("arrived 60", Check.INDEX, () -> x.arrived(60));
        Check.dueThrow("board number 61 when all have arrived", Check.STATE, () -> x.board(0, 1, 1));
    }

    private static void aTicketIsToTheOtherStation() {
        Check.sentence("A ticket is for some people in a car that is in a station, to the other station");
        int[] places = {0, 10, 600, 610};
        int[] ways = {600, 590, 600, 590};
        for (int i = 0; i < places.length; i++) {
            // A car that has gone round before has the goal a round later.
            for (int round = 0; round <= 2400; round += 1200) {
                RopeVotes x = Runs.carAt(round + places[i]);
                x.board(0, 1, 1);
                Check.due("arrived at once", NONE, x.arrived(0));
                Runs.move(x, ways[i] - 10);
                Check.due("arrived 10 before, from " + places[i], NONE, x.arrived(0));
                Runs.move(x, 10);
                Check.due("arrived from " + places[i], x.time(), x.arrived(0));
            }
        }
        RopeVotes y = new RopeVotes();
        Runs.move(y, 250);
        y.putOn();
        y.board(0, 1, 1);
        Runs.move(y, 590);
        Check.due("arrived 10 before, put on at the turns 250", NONE, y.arrived(0));
        Runs.move(y, 10);
        Check.due("arrived, put on at the turns 250", y.time(), y.arrived(0));
        y.board(0, 1, 1);
        Runs.move(y, 590);
        Check.due("arrived 10 before the bottom, put on at the turns 250", NONE, y.arrived(1));
        Runs.move(y, 10);
        Check.due("arrived at the bottom, put on at the turns 250", y.time(), y.arrived(1));
    }

    private static void aTicketIsForACarInAStation() {
        Check.sentence("in a car that is in a station");
        for (int place = 0; place < 1200; place += 10) {
            RopeVotes x = Runs.carAt(place);
            if (place < 20 || place >= 600 && place < 620) {
                Check.due("board at " + place, 0, x.board(0, 8, 1000));
                Check.due("people at " + place, 8, x.people(0));
            } else {
                Check.dueThrow("board at " + place, Check.STATE, () -> x.board(0, 1, 0));
                Check.due("people at " + place, 0, x.people(0));
            }
        }
    }

    private static void aCarHasRoomFor8() {
        Check.sentence("A car has room for 8 people who have not arrived.");
        for (int people = 1; people <= 8; people++) {
            int some = people;
            RopeVotes x = new RopeVotes();
            x.putOn();
            Check.due("board " + people, 0, x.board(0, people, 1));
            Check.dueThrow("board " + (9 - people) + " more", Check.STATE, () -> x.board(0, 9 - some, 1));
            if (people < 8) {
                Check.due("board " + (8 - people) + " more", 1, x.board(0, 8 - people, 1));
            }
            Check.due("people", 8, x.people(0));
            Check.dueThrow("board 1 beyond 8", Check.STATE, () -> x.board(0, 1, 1));
        }
        RopeVotes y = new RopeVotes();
        y.putOn();
        for (int ticket = 0; ticket < 8; ticket++) {
            Check.due("board 1", ticket, y.board(0, 1, 1));
        }
        Check.dueThrow("board 1 beyond 8 of 1", Check.STATE, () -> y.board(0, 1, 1));
        Runs.move(y, 60);
        y.putOn();
        Check.due("board 8 in another car", 8, y.board(1, 8, 1));
    }

    private static void roomIsForThoseWhoHaveNotArrived() {
        Check.sentence("A car has room for 8 people who have not arrived.");
        RopeVotes x = new RopeVotes();
        x.putOn();
        x.board(0, 8, 1);
        Runs.move(x, 10);
        Check.dueThrow("board 1 at 10, with 8 in the car", Check.STATE, () -> x.board(0, 1, 1));
        Runs.move(x, 590);
        Check.due("board 5 when 8 have arrived", 1, x.board(0, 5, 1));
        Runs.move(x, 10);
        Check.dueThrow("board 4 at 610, with 5 in the car", Check.STATE, () -> x.board(0, 4, 1));
        Check.due("board 3 at 610, with 5 in the car", 2, x.board(0, 3, 1));
        Runs.move(x, 590);
        Check.due("people at the bottom", 0, x.people(0));
        Check.due("board 8 at the bottom", 3, x.board(0, 8, 1));
    }

    // ---- what a refund is

    private static void minutesBeyond5AreRefunded() {
        Check.sentence("The refund of a ticket is the fare of all its people times the minutes beyond 5 "
            + "in which it was hung");
        int[] due = {0, 0, 0, 0, 0, 0, 800, 1600};
        RopeVotes x = carOutWith(8, 1000);
        for (int minutes = 0; minutes < due.length; minutes++) {
            Check.due("hung", minutes, x.hung(0));
            Check.due("refund behind " + minutes + " minutes", due[minutes], x.refund(0));
            Check.due("refunds behind " + minutes + " minutes", due[minutes], x.refunds());
            Runs.hang(x, 1);
        }
        RopeVotes y = carOutWith(8, 0);
        Runs.hang(y, 60);
        Check.due("refund of the fare 0", 0, y.refund(0));
        RopeVotes z = carOutWith(1, 1);
        Runs.hang(z, 60);
        Check.due("refund of the fare 1", 1, z.refund(0));
    }

    private static void aRefundIsRoundedDown() {
        Check.sentence("divided by 10, rounded down");
        // 3 times 35, and 7 times 1: rounded for each person alone, the first steps would be 9 and 0.
        int[] dueOf105 = {0, 10, 21, 31, 42, 52, 63, 73, 84, 94, 105};
        RopeVotes x = carOutWith(3, 35);
        int[] dueOf7 = {0, 0, 1, 2, 2, 3, 4, 4, 5, 6, 7};
        RopeVotes y = carOutWith(7, 1);
        Runs.hang(x, 5);
        Runs.hang(y, 5);
        for (int beyond = 0; beyond <= 10; beyond++) {
            Check.due("refund of 105 behind " + beyond + " beyond 5", dueOf105[beyond], x.refund(0));
            Check.due("refund of 7 behind " + beyond + " beyond 5", dueOf7[beyond], y.refund(0));
            Runs.hang(x, 1);
            Runs.hang(y, 1);
        }
    }

    private static void aRefundIsNotMoreThanTheFare() {
        Check.sentence("but not more than that fare.");
        int[] people = {1, 3, 8};
        int[] fares = {1, 35, 1000};
        for (int i = 0; i < people.length; i++) {
            int whole = people[i] * fares[i];
            RopeVotes x = carOutWith(people[i], fares[i]);
            Runs.hang(x, 14);
            Check.due("refund behind 14 minutes", whole * 9 / 10, x.refund(0));
            Runs.hang(x, 1);
            Check.due("refund behind 15 minutes", whole, x.refund(0));
            Runs.hang(x, 1);
            Check.due("refund behind 16 minutes", whole, x.refund(0));
            Runs.hang(x, 960);
            Check.due("hung", 976, x.hung(0));
            Check.due("refund behind 976 minutes", whole, x.refund(0));
            Check.due("refunds behind 976 minutes", whole, x.refunds());
        }
    }

    /** A rope with one ticket, of a car that has just left the bottom station. */
    private static RopeVotes carOutWith(int people, int fare) {
        RopeVotes x = new RopeVotes();
        x.putOn();
        x.board(0, people, fare);
        Runs.move(x, 20);
        return x;
    }

    // ---- Promise 22

    private static void boardTakes1To8People() {
        Check.sentence("Promise 22: people: 1 to 8");
        for (int people = 1; people <= 8; people++) {
            RopeVotes x = new RopeVotes();
            x.putOn();
            Check.due("board " + people, 0, x.board(0, people, 1));
            Check.due("people", people, x.people(0));
        }
    }

    private static void boardTakesFaresOf0To1000() {
        Check.sentence("Promise 22: fare: 0 to 1000, for each");
        int[] fares = {0, 1, 10, 999, 1000};
        for (int fare : fares) {
            RopeVotes x = carOutWith(2, fare);
            Runs.hang(x, 15);
            Check.due("the whole fare of two, at " + fare, 2 * fare, x.refund(0));
        }
    }

    private static void boardRefusesNoSuchCar() {
        Check.sentence("Promise 22: Throws IndexOutOfBoundsException if there is no such car");
        RopeVotes x = new RopeVotes();
        Check.dueThrow("board without cars", Check.INDEX, () -> x.board(0, 1, 1));
        x.putOn();
        x.takeOff(0);
        x.putOn();
        int[] none = {0, -1, 2, 15, 16, 17, MAX, MIN};
        for (int car : none) {
            Check.dueThrow("board " + car, Check.INDEX, () -> x.board(car, 1, 1));
        }
        Check.due("board 1", 0, x.board(1, 1, 1));
    }

    private static void boardRefusesPeopleAndFares() {
        Check.sentence("Promise 22: Throws IllegalArgumentException if people or fare is out of range");
        RopeVotes x = new RopeVotes();
        x.putOn();
        int[] wrongPeople = {0, -1, 9, 16, MAX, MIN};
        for (int people : wrongPeople) {
            Check.dueThrow("people " + people, Check.ARGUMENT, () -> x.board(0, people, 0));
            Check.dueThrow("people " + people, Check.ARGUMENT, () -> x.board(0, people, 1000));
        }
        int[] wrongFares = {-1, 1001, 8000, MAX, MIN};
        for (int fare : wrongFares) {
            Check.dueThrow("fare " + fare, Check.ARGUMENT, () -> x.board(0, 1, fare));
            Check.dueThrow("fare " + fare, Check.ARGUMENT, () -> x.board(0, 8, fare));
        }
        Check.due("the number behind these", 0, x.board(0, 8, 1000));
    }

    private static void boardRefusesNoStation() {
        Check.sentence("Promise 22: Throws IllegalStateException if the car is in no station");
        int[] places = {20, 590, 620, 1190};
        for (int place : places) {
            RopeVotes x = Runs.carAt(place);
            Check.dueThrow("board at " + place, Check.STATE, () -> x.board(0, 1, 0));
            Check.dueThrow("arrived 0, which was not sold", Check.INDEX, () -> x.arrived(0));
        }
    }

    private static void boardRefusesNoRoom() {
        Check.sentence("Promise 22: Throws IllegalStateException if the car has no room for them");
        RopeVotes x = new RopeVotes();
        x.putOn();
        Check.due("board 7", 0, x.board(0, 7, 1));
        Check.dueThrow("board 2 more", Check.STATE, () -> x.board(0, 2, 1));
        Check.dueThrow("board 8 more", Check.STATE, () -> x.board(0, 8, 1));
        Check.due("board 1 more", 1, x.board(0, 1, 1));
        Check.dueThrow("board 1 beyond 8", Check.STATE, () -> x.board(0, 1, 1));
        Check.due("people", 8, x.people(0));
    }

    private static void boardRefusesATicketNumber61() {
        Check.sentence("Promise 22: Throws IllegalStateException if there are 60");
        RopeVotes x = sixtyTickets();
        Check.due("the place, in a station", 0, x.place(0) % 600);
        Check.due("people, with room for 8", 0, x.people(0));
        Check.dueThrow("board number 61", Check.STATE, () -> x.board(0, 1, 0));
        Runs.move(x, 60);
        Check.due("another car", 1, x.putOn());
        Check.dueThrow("board number 61 in another car", Check.STATE, () -> x.board(1, 1, 0));
    }

    /** All tickets that there can be: of one car, eight in each station, all arrived. */
    private static RopeVotes sixtyTickets() {
        RopeVotes x = new RopeVotes();
        x.putOn();
        for (int ticket = 0; ticket < 60; ticket++) {
            Check.due("board", ticket, x.board(0, 1, 1));
            if (ticket % 8 == 7) {
                x.pass(20);
            }
        }
        x.pass(20);
        return x;
    }

    // ---- Promises 23 to 27

    private static void peopleWhoHaveNotArrived() {
        Check.sentence("Promise 23: Returns how many people in a car have not arrived.");
        RopeVotes x = new RopeVotes();
        x.putOn();
        Check.due("people of an empty car", 0, x.people(0));
        x.board(0, 3, 1);
        Runs.move(x, 60);
        x.putOn();
        Check.due("people of another car", 0, x.people(1));
        x.board(1, 8, 1);
        Check.due("people of the first car", 3, x.people(0));
        Runs.move(x, 530);
        Check.due("people at 590", 3, x.people(0));
        Runs.move(x, 10);
        Check.due("people at 600", 0, x.people(0));
        Check.due("people of the other car at 540", 8, x.people(1));
        x.board(0, 2, 1);
        Check.due("people boarded at 600", 2, x.people(0));
        Runs.move(x, 60);
        Check.due("people of the other car at 600", 0, x.people(1));
        Check.due("people at 660", 2, x.people(0));
    }

    private static void peopleRefusesNoSuchCar() {
        Check.sentence("Promise 23: Throws IndexOutOfBoundsException if there is no such car");
        RopeVotes x = new RopeVotes();
        Check.dueThrow("people without cars", Check.INDEX, () -> x.people(0));
        x.putOn();
        x.takeOff(0);
        x.putOn();
        int[] none = {0, -1, 2, 15, 16, 17, MAX, MIN};
        for (int car : none) {
            Check.dueThrow("people " + car, Check.INDEX, () -> x.people(car));
        }
        Check.due("people 1", 0, x.people(1));
    }

    private static void arrivedAnswersTheTime() {
        Check.sentence("Promise 24: Returns the time; NONE if it has not.");
        RopeVotes x = new RopeVotes();
        x.pass(7);
        x.putOn();
        x.board(0, 1, 1);
        x.board(0, 1, 1);
        Check.due("arrived at first", NONE, x.arrived(0));
        x.pass(19);
        Check.due("arrived a minute before", NONE, x.arrived(0));
        x.pass(1);
        Check.due("arrived", 27, x.arrived(0));
        Check.due("arrived, the other one", 27, x.arrived(1));
        x.board(0, 1, 1);
        x.pass(60);
        Check.due("arrived, an hour later", 27, x.arrived(0));
        Check.due("arrived at the bottom", 47, x.arrived(2));
        x.hold(true);
        x.pass(60);
        Check.due("arrived, two hours later", 27, x.arrived(0));
        RopeVotes y = new RopeVotes();
        Runs.hang(y, 980);
        y.putOn();
        y.board(0, 1, 1);
        y.pass(20);
        Check.due("arrived in the last minute", 1000, y.arrived(0));
    }

    private static void hungAnswersTheMinutes() {
        Check.sentence("Promise 25: Returns in how many minutes a ticket was hung.");
        RopeVotes x = new RopeVotes();
        x.putOn();
        x.board(0, 1, 1);
        Check.due("hung at first", 0, x.hung(0));
        x.pass(2);
        x.putOn();
        x.board(1, 1, 1);
        Runs.hang(x, 60);
        Check.due("hung at 60", 60, x.hung(0));
        Check.due("hung at 0", 0, x.hung(1));
        x.pass(1);
        Runs.all(x, 70);
        x.pass(3);
        Check.due("hung by the wind, held before", 63, x.hung(0));
        Check.due("hung by the wind, at 30", 3, x.hung(1));
        Runs.cutAll(x);
        x.pass(4);
        Check.due("hung without votes", 67, x.hung(0));
        Check.due("hung without votes, at 30", 7, x.hung(1));
        Runs.joinAll(x);
        Runs.all(x, 40);
        x.pass(51);
        Check.due("place", 600, x.place(0));
        Check.due("hung in slow minutes", 67, x.hung(0));
        Runs.hang(x, 2);
        Check.due("hung when it has arrived", 67, x.hung(0));
        Check.due("hung, the other one", 9, x.hung(1));
        RopeVotes y = Runs.carAt(600);
        y.board(0, 1, 1);
        Runs.hang(y, 3);
        Check.due("hung at 600, to the bottom", 0, y.hung(0));
        Runs.move(y, 10);
        Runs.hang(y, 3);
        Check.due("hung at 610, to the bottom", 0, y.hung(0));
        Runs.move(y, 10);
        Runs.hang(y, 3);
        Check.due("hung at 620, to the bottom", 3, y.hung(0));
        Runs.move(y, 570);
        Runs.hang(y, 3);
        Check.due("hung at 1190, to the bottom", 6, y.hung(0));
        Runs.move(y, 10);
        Runs.hang(y, 3);
        Check.due("hung at 0, arrived", 6, y.hung(0));
    }

    private static void refundGrowsUntilTheArrival() {
        Check.sentence("Promise 26: Returns the refund of a ticket.");
        RopeVotes x = carOutWith(4, 25);
        Check.due("refund at first", 0, x.refund(0));
        Runs.hang(x, 8);
        Check.due("refund on the way", 30, x.refund(0));
        Runs.move(x, 570);
        Runs.hang(x, 1);
        Check.due("refund at 590", 40, x.refund(0));
        Runs.move(x, 10);
        Runs.hang(x, 60);
        Check.due("refund at 600", 40, x.refund(0));
        Runs.move(x, 60);
        Runs.hang(x, 60);
        Check.due("refund at 660", 40, x.refund(0));
    }

    private static void noSuchTicket() {
        Check.sentence("Promises 24 to 26: Throws IndexOutOfBoundsException if there is no such ticket");
        RopeVotes x = new RopeVotes();
        x.putOn();
        int[] never = {-1, 1, 2, 59, 60, 61, MAX, MIN};
        dueNoTicket(x, 0);
        for (int ticket : never) {
            dueNoTicket(x, ticket);
        }
        x.board(0, 1, 1);
        for (int ticket : never) {
            dueNoTicket(x, ticket);
        }
        Check.due("arrived 0", NONE, x.arrived(0));
        Check.due("hung 0", 0, x.hung(0));
        Check.due("refund 0", 0, x.refund(0));
        RopeVotes y = sixtyTickets();
        int[] neverOf60 = {-1, 60, 61, MAX, MIN};
        for (int ticket : neverOf60) {
            dueNoTicket(y, ticket);
        }
        Check.due("hung 59", 0, y.hung(59));
        Check.due("refund 59", 0, y.refund(59));
    }

    private static void dueNoTicket(RopeVotes x, int ticket) {
        Check.dueThrow("arrived " + ticket, Check.INDEX, () -> x.arrived(ticket));
        Check.dueThrow("hung " + ticket, Check.INDEX, () -> x.hung(ticket));
        Check.dueThrow("refund " + ticket, Check.INDEX, () -> x.refund(ticket));
    }

    private static void refundsOfAllTickets() {
        Check.sentence("Promise 27: Returns the refunds of all tickets together.");
        RopeVotes x = new RopeVotes();
        Check.due("refunds without tickets", 0, x.refunds());
        x.putOn();
        x.board(0, 1, 7);
        x.board(0, 1, 7);
        Check.due("refunds at first", 0, x.refunds());
        Runs.move(x, 60);
        x.putOn();
        x.board(1, 2, 100);
        Runs.hang(x, 6);
        Check.due("refunds, each rounded down", 0, x.refunds());
        Runs.hang(x, 1);
        Check.due("refunds, each rounded down", 2, x.refunds());
        Runs.move(x, 30);
        Runs.hang(x, 7);
        Check.due("refunds of two cars", 6 + 6 + 40, x.refunds());
        Runs.hang(x, 10);
        Check.due("refunds, each up to its fare", 7 + 7 + 200, x.refunds());
        Runs.move(x, 1110);
        x.takeOff(0);
        Check.due("refunds when a car was taken off", 214, x.refunds());
        Check.due("refund of its ticket", 7, x.refund(0));
        Check.due("hung of its ticket", 24, x.hung(0));
    }

    private static void refundsOfManyTickets() {
        Check.sentence("Promise 27: Returns the refunds of all tickets together.");
        RopeVotes x = new RopeVotes();
        // The first 8 cars hang at 60 to 480, the other 8 when these have arrived.
        for (int car = 0; car < 16; car++) {
            x.putOn();
            x.board(car, 8, 1000);
            x.pass(2);
            if (car == 7) {
                Runs.hang(x, 15);
            }
        }
        Check.due("refunds of 8 tickets", 8 * 8000, x.refunds());
        Runs.hang(x, 15);
        Check.due("refunds of 16 tickets", 16 * 8000, x.refunds());
        for (int ticket = 0; ticket < 16; ticket++) {
            Check.due("refund " + ticket, 8000, x.refund(ticket));
        }
    }
}
