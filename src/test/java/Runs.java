/** What several tests need of a rope. */
final class Runs {
    private Runs() {
    }

    /** Lets all towers vote SLOW from now on. */
    static void slow(RopeVotes x) {
        all(x, 50);
    }

    static void all(RopeVotes x, int wind) {
        for (int tower = 0; tower < 7; tower++) {
            x.wind(tower, wind);
        }
    }

    static void cutAll(RopeVotes x) {
        for (int tower = 0; tower < 7; tower++) {
            x.cut(tower, true);
        }
    }
}
