/** Promises 5 to 9: place, seen, relative, shift, spare. */
public final class PlacesTest {
    private static final Checks CHECKS = new Checks("PlacesTest");

    public static void main(String[] args) {
        places();
        sightings();
        wrongSightings();
        spares();
        drawnOnes();
        firstOfEquals();
        shiftStays();
        noPlaces();
        wrongRelatives();
        CHECKS.end();
    }

    private static void places() {
        PhotoModels x = new PhotoModels(6, 6, 0);
        for (int i = 0; i < 12; i++) {
            int next = i;
            CHECKS.dueThrow("no such place yet", Checks.INDEX, () -> x.miss(next));
            CHECKS.due("place()", x.place(), i);
            CHECKS.due("at across", x.at(i, 0), 0);
            CHECKS.due("at down", x.at(i, 1), 0);
            CHECKS.due("spare already", x.spare(i, false), false);
        }
        CHECKS.dueThrow("a thirteenth place", Checks.STATE, x::place);
        CHECKS.due("places", x.count(2), 12);
    }

    private static void sightings() {
        PhotoModels x = new PhotoModels(6, 6, 0);
        x.place();
        x.place();
        CHECKS.due("never seen, not any more", x.seen(0, 2, -1, 0), false);
        CHECKS.due("first", x.seen(0, 2, 0, 999), false);
        CHECKS.due("another photo", x.seen(0, 1, 999, 0), false);
        CHECKS.due("another place", x.seen(1, 2, 3, 4), false);
        CHECKS.due("again, elsewhere", x.seen(0, 2, 5, 6), true);
        CHECKS.due("the new one counts", x.miss(0), 999000L * 999000 + 5000L * 5000 + 6000L * 6000);
        CHECKS.due("no more, y does not matter", x.seen(0, 2, Integer.MIN_VALUE, Integer.MAX_VALUE), true);
        CHECKS.due("no more, again", x.seen(0, 2, -1, -1), false);
        CHECKS.due("it does not count any more", x.miss(0), 999000L * 999000);
        CHECKS.due("the other one does", x.miss(1), 3000L * 3000 + 4000L * 4000);
    }

    private static void wrongSightings() {
        PhotoModels x = new PhotoModels(6, 6, 0);
        x.place();
        x.seen(0, 0, 7, 8);
        int[][] nowhere = {{-1, 0}, {1, 0}, {0, -1}, {0, 4}, {12, 0}, {Integer.MAX_VALUE, 0}, {0, Integer.MIN_VALUE}};
        for (int[] each : nowhere) {
            CHECKS.dueThrow("seen", Checks.INDEX, () -> x.seen(each[0], each[1], 5, 5));
            CHECKS.dueThrow("seen, x too", Checks.INDEX, () -> x.seen(each[0], each[1], 1000, 5));
            CHECKS.dueThrow("seen no more", Checks.INDEX, () -> x.seen(each[0], each[1], -1, 5));
        }
        int[][] wrong = {{1000, 0}, {Integer.MAX_VALUE, 0}, {0, 1000}, {0, -1}, {999, Integer.MIN_VALUE},
            {0, Integer.MAX_VALUE}, {1000, -1}};
        for (int[] each : wrong) {
            CHECKS.dueThrow("seen", Checks.ARGUMENT, () -> x.seen(0, 0, each[0], each[1]));
        }
        CHECKS.due("nothing changed", x.miss(0), 7000L * 7000 + 8000L * 8000);
    }

    private static void spares() {
        PhotoModels x = new PhotoModels(6, 6, 0);
        x.place();
        x.place();
        CHECKS.due("on", x.spare(1, true), true);
        CHECKS.due("on again", x.spare(1, true), false);
        CHECKS.due("spares", x.count(4), 1);
        CHECKS.due("the other one", x.spare(0, true), true);
        CHECKS.due("spares", x.count(4), 2);
        CHECKS.due("off", x.spare(1, false), true);
        CHECKS.due("off again", x.spare(1, false), false);
        CHECKS.due("spares", x.count(4), 1);
        for (int place : new int[] {-1, 2, 12, Integer.MIN_VALUE, Integer.MAX_VALUE}) {
            CHECKS.dueThrow("spare", Checks.INDEX, () -> x.spare(place, true));
        }
        CHECKS.due("spares", x.count(4), 1);
    }

    /** The drawn number t, step by step as the document tells it. */
    private static long drawn(long seed, int t) {
        long z = (seed + 101L * t) % 65537;
        z = (75 * z + 74) % 65537;
        z = (75 * z + 74) % 65537;
        z = (75 * z + 74) % 65537;
        return z;
    }

    private static void drawnOnes() {
        for (int seed : new int[] {0, 1, 77, 4242, 65000, 65535, 65536}) {
            for (int n = 1; n <= 12; n++) {
                PhotoModels x = seeing(seed, n);
                // Each place agrees with itself alone, so the first drawn one stays.
                CHECKS.due("relative, seed " + seed, x.relative(1, 3, 20, 0), 1);
                int first = (int) (drawn(seed, 0) % n);
                CHECKS.due("across, seed " + seed + " of " + n, x.shift(0), 10 * first - 50);
                CHECKS.due("down, seed " + seed + " of " + n, x.shift(1), 60 - 7 * first);
                CHECKS.due("the other way", x.relative(3, 1, 1, 0), 1);
                CHECKS.due("across, the other way", x.shift(0), 50 - 10 * first);
            }
        }
        int[][] likewise = {{-1, 0}, {Integer.MIN_VALUE, 0}, {65537, 65536}, {Integer.MAX_VALUE, 65536}};
        for (int[] each : likewise) {
            PhotoModels x = seeing(each[0], 11);
            x.relative(1, 3, 1, 0);
            CHECKS.due("seed " + each[0], x.shift(0), 10 * (int) (drawn(each[1], 0) % 11) - 50);
        }
    }

    private static PhotoModels seeing(int seed, int n) {
        PhotoModels x = new PhotoModels(6, 6, seed);
        for (int i = 0; i < n; i++) {
            x.place();
            x.seen(i, 1, 200 + i, 300);
            x.seen(i, 3, 150 + 11 * i, 360 - 7 * i);
            x.spare(i, i % 2 == 0);
        }
        return x;
    }

    private static void firstOfEquals() {
        for (int seed = 0; seed < 60; seed++) {
            PhotoModels x = new PhotoModels(6, 6, seed);
            int[] shifts = {0, 1, 2, 50, 51, 52, 53, 900};
            int[] agreeing = {3, 3, 3, 3, 4, 4, 3, 1};
            for (int i = 0; i < 8; i++) {
                x.place();
                x.seen(i, 0, 0, 9);
                x.seen(i, 2, shifts[i], 9);
            }
            // At tolerance 2 the places at 0, 1, 2 agree, and those at 50 .. 53 with 51 and 52 all four.
            for (int tries = 1; tries <= 20; tries++) {
                int best = 0;
                int shift = 0;
                for (int t = 0; t < tries; t++) {
                    int one = (int) (drawn(seed, t) % 8);
                    if (agreeing[one] > best) {
                        best = agreeing[one];
                        shift = shifts[one];
                    }
                }
                CHECKS.due("relative, seed " + seed + ", tries " + tries, x.relative(0, 2, tries, 2), best);
                CHECKS.due("shift, seed " + seed + ", tries " + tries, x.shift(0), shift);
                CHECKS.due("shift down", x.shift(1), 0);
            }
        }
    }

    private static void shiftStays() {
        PhotoModels x = new PhotoModels(6, 6, 3);
        x.place();
        x.place();
        x.seen(0, 0, 10, 10);
        x.seen(0, 1, 110, 110);
        x.seen(1, 0, 10, 10);
        x.seen(1, 1, 10, 10);
        CHECKS.due("agree by 100", x.relative(0, 1, 20, 100), 2);
        CHECKS.due("agree by 99", x.relative(0, 1, 20, 99), 1);
        x.seen(0, 1, 10, 110);
        CHECKS.due("down counts too", x.relative(0, 1, 20, 99), 1);
        x.seen(0, 1, 110, 10);
        CHECKS.due("across counts too", x.relative(0, 1, 20, 99), 1);
        x.seen(1, 0, -1, 0);
        CHECKS.due("one is left", x.relative(0, 1, 20, 0), 1);
        x.seen(0, 1, 500, 500);
        x.seen(0, 1, -1, 500);
        CHECKS.due("its shift stays", x.shift(0), 100);
        CHECKS.dueThrow("relative", Checks.INDEX, () -> x.relative(0, 4, 1, 1));
        CHECKS.due("its shift stays", x.shift(1), 0);
        CHECKS.due("both may be one photo", x.relative(1, 1, 2, 0), 1);
        CHECKS.due("with no shift", x.shift(0), 0);
        CHECKS.dueThrow("shift(2)", Checks.INDEX, () -> x.shift(2));
        CHECKS.dueThrow("shift(-1)", Checks.INDEX, () -> x.shift(-1));
    }

    private static void noPlaces() {
        PhotoModels x = new PhotoModels(6, 6, 3);
        CHECKS.due("no places at all", x.relative(0, 0, 20, 100), 0);
        CHECKS.dueThrow("shift", Checks.STATE, () -> x.shift(0));
        CHECKS.dueThrow("index ahead of state", Checks.INDEX, () -> x.shift(2));
        x.place();
        x.seen(0, 1, 5, 5);
        x.seen(0, 2, 6, 7);
        CHECKS.due("seen in both", x.relative(1, 2, 1, 0), 1);
        CHECKS.due("shift", x.shift(1), 2);
        CHECKS.due("seen in one alone", x.relative(0, 2, 1, 0), 0);
        CHECKS.dueThrow("shift of none", Checks.STATE, () -> x.shift(1));
    }

    private static void wrongRelatives() {
        PhotoModels x = new PhotoModels(6, 6, 3);
        x.place();
        x.seen(0, 0, 5, 5);
        x.seen(0, 1, 6, 7);
        x.relative(0, 1, 1, 0);
        for (int photo : new int[] {-1, 4, Integer.MIN_VALUE, Integer.MAX_VALUE}) {
            CHECKS.dueThrow("a", Checks.INDEX, () -> x.relative(photo, 0, 1, 1));
            CHECKS.dueThrow("b", Checks.INDEX, () -> x.relative(0, photo, 1, 1));
            CHECKS.dueThrow("b and tries", Checks.INDEX, () -> x.relative(0, photo, 0, 1));
        }
        for (int tries : new int[] {0, -1, 21, Integer.MIN_VALUE, Integer.MAX_VALUE}) {
            CHECKS.dueThrow("tries", Checks.ARGUMENT, () -> x.relative(2, 3, tries, 1));
        }
        for (int tolerance : new int[] {-1, 101, Integer.MIN_VALUE, Integer.MAX_VALUE}) {
            CHECKS.dueThrow("tolerance", Checks.ARGUMENT, () -> x.relative(2, 3, 1, tolerance));
        }
        CHECKS.due("the shift stays", x.shift(1), 2);
    }
}
