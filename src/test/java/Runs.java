/** What several tests need of a rope. */
final class Runs {
    private Runs() {
    }

    /** Lets all towers vote SLOW from now on. */
    static void slow(RopeVotes x) {
        all(x, 50);
    }

    static void all(RopeVotes x, int wind) {
        for (int tower = 0; tower < 7; tower++) {
            x.wind(tower, wind);
        }
    }

    static void cutAll(RopeVotes x) {
        for (int tower = 0; tower < 7; tower++) {
            x.cut(tower, true);
        }
    }

    static void joinAll(RopeVotes x) {
        for (int tower = 0; tower < 7; tower++) {
            x.cut(tower, false);
        }
    }

    /** A rope with car 0 at a place that is a multiple of 10, whose towers all vote FULL. */
    static RopeVotes carAt(int place) {
        RopeVotes x = new RopeVotes();
        x.putOn();
        move(x, place);
        return x;
    }

    /** Moves a rope whose towers all vote FULL, by a multiple of 10 parts: the slow minutes are the last ones. */
    static void move(RopeVotes x, int parts) {
        for (int left = parts / 30; left > 0; left -= 60) {
            x.pass(Math.min(60, left));
        }
        if (parts % 30 != 0) {
            // A single STOP makes the rope slow.
            x.wind(0, 70);
            x.pass(parts % 30 / 10);
            x.wind(0, 0);
        }
    }

    /** Lets minutes pass in which the rope is held. */
    static void hang(RopeVotes x, int minutes) {
        x.hold(true);
        for (int left = minutes; left > 0; left -= 60) {
            x.pass(Math.min(60, left));
        }
        x.hold(false);
    }
}
