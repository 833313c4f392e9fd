/** Promises 5 to 9: place, seen, relative, shift, spare. */
public final class PlacesTest {
    private static final Checks CHECKS = new Checks("PlacesTest");

    public static void main(String[] args) {
        places();
        sightings();
        spares();
        drawnOnes();
        firstOfEquals();
        shiftStays();
        noPlaces();
        newPlaces();
        notAnyMore();
        leastAndGreatestSightings();
        toleranceAcrossAndDown();
        sparesDrawnToo();
        leastAndGreatestTries();
        onePhotoTwice();
        inTheirOrder();
        CHECKS.end();
    }

    private static void places() {
        PhotoModels x = new PhotoModels(6, 6, 0);
        for (int i = 0; i < 12; i++) {
            int next = i;
            CHECKS.dueThrow("no such place yet", Checks.INDEX, () -> x.miss(next));
            CHECKS.due("place()", x.place(), i);
            CHECKS.due("at across", x.at(i, 0), 0);
            CHECKS.due("at down", x.at(i, 1), 0);
            CHECKS.due("spare already", x.spare(i, false), false);
        }
        CHECKS.dueThrow("a thirteenth place", Checks.STATE, x::place);
        CHECKS.due("places", x.count(2), 12);
    }

    private static void sightings() {
        PhotoModels x = new PhotoModels(6, 6, 0);
        x.place();
        x.place();
        CHECKS.due("never seen, not any more", x.seen(0, 2, -1, 0), false);
        CHECKS.due("first", x.seen(0, 2, 0, 999), false);
        CHECKS.due("another photo", x.seen(0, 1, 999, 0), false);
        CHECKS.due("another place", x.seen(1, 2, 3, 4), false);
        CHECKS.due("again, elsewhere", x.seen(0, 2, 5, 6), true);
        CHECKS.due("the new one counts", x.miss(0), 999000L * 999000 + 5000L * 5000 + 6000L * 6000);
        CHECKS.due("no more, y does not matter", x.seen(0, 2, Integer.MIN_VALUE, Integer.MAX_VALUE), true);
        CHECKS.due("no more, again", x.seen(0, 2, -1, -1), false);
        CHECKS.due("it does not count any more", x.miss(0), 999000L * 999000);
        CHECKS.due("the other one does", x.miss(1), 3000L * 3000 + 4000L * 4000);
    }

    private static void spares() {
        PhotoModels x = new PhotoModels(6, 6, 0);
        x.place();
        x.place();
        CHECKS.due("on", x.spare(1, true), true);
        CHECKS.due("on again", x.spare(1, true), false);
        CHECKS.due("spares", x.count(4), 1);
        CHECKS.due("the other one", x.spare(0, true), true);
        CHECKS.due("spares", x.count(4), 2);
        CHECKS.due("off", x.spare(1, false), true);
        CHECKS.due("off again", x.spare(1, false), false);
        CHECKS.due("spares", x.count(4), 1);
        for (int place : new int[] {-1, 2, 12, Integer.MIN_VALUE, Integer.MAX_VALUE}) {
            CHECKS.dueThrow("spare", Checks.INDEX, () -> x.spare(place, true));
        }
        CHECKS.due("spares", x.count(4), 1);
    }

    /** The drawn number t, step by step as the document tells it. */
    private static long drawn(long seed, int t) {
        long z = (seed + 101L * t) % 65537;
        z = (75 * z + 74) % 65537;
        z = (75 * z + 74) % 65537;
        z = (75 * z + 74) % 65537;
        return z;
    }

    private static void drawnOnes() {
        for (int seed : new int[] {0, 1, 77, 4242, 65000, 65535, 65536}) {
            for (int n = 1; n <= 12; n++) {
                PhotoModels x = seeing(seed, n);
                // Each place agrees with itself alone, so the first drawn one stays.
                CHECKS.due("relative, seed " + seed, x.relative(1, 3, 20, 0), 1);
                int first = (int) (drawn(seed, 0) % n);
                CHECKS.due("across, seed " + seed + " of " + n, x.shift(0), 10 * first - 50);
                CHECKS.due("down, seed " + seed + " of " + n, x.shift(1), 60 - 7 * first);
                CHECKS.due("the other way", x.relative(3, 1, 1, 0), 1);
                CHECKS.due("across, the other way", x.shift(0), 50 - 10 * first);
            }
        }
        int[][] likewise = {{-1, 0}, {Integer.MIN_VALUE, 0}, {65537, 65536}, {Integer.MAX_VALUE, 65536}};
        for (int[] each : likewise) {
            PhotoModels x = seeing(each[0], 11);
            x.relative(1, 3, 1, 0);
            CHECKS.due("seed " + each[0], x.shift(0), 10 * (int) (drawn(each[1], 0) % 11) - 50);
        }
    }

    private static PhotoModels seeing(int seed, int n) {
        PhotoModels x = new PhotoModels(6, 6, seed);
        for (int i = 0; i < n; i++) {
            x.place();
            x.seen(i, 1, 200 + i, 300);
            x.seen(i, 3, 150 + 11 * i, 360 - 7 * i);
            x.spare(i, i % 2 == 0);
        }
        return x;
    }

    private static void firstOfEquals() {
        for (int seed = 0; seed < 60; seed++) {
            PhotoModels x = new PhotoModels(6, 6, seed);
            int[] shifts = {0, 1, 2, 50, 51, 52, 53, 900};
            int[] agreeing = {3, 3, 3, 3, 4, 4, 3, 1};
            for (int i = 0; i < 8; i++) {
                x.place();
                x.seen(i, 0, 0, 9);
                x.seen(i, 2, shifts[i], 9);
            }
            // At tolerance 2 the places at 0, 1, 2 agree, and those at 50 .. 53 with 51 and 52 all four.
            for (int tries = 1; tries <= 20; tries++) {
                int best = 0;
                int shift = 0;
                for (int t = 0; t < tries; t++) {
                    int one = (int) (drawn(seed, t) % 8);
                    if (agreeing[one] > best) {
                        best = agreeing[one];
                        shift = shifts[one];
                    }
                }
                CHECKS.due("relative, seed " + seed + ", tries " + tries, x.relative(0, 2, tries, 2), best);
                CHECKS.due("shift, seed " + seed + ", tries " + tries, x.shift(0), shift);
                CHECKS.due("shift down", x.shift(1), 0);
            }
        }
    }

    private static void shiftStays() {
        PhotoModels x = new PhotoModels(6, 6, 3);
        x.place();
        x.place();
        x.seen(0, 0, 10, 10);
        x.seen(0, 1, 110, 110);
        x.seen(1, 0, 10, 10);
        x.seen(1, 1, 10, 10);
        CHECKS.due("agree by 100", x.relative(0, 1, 20, 100), 2);
        CHECKS.due("agree by 99", x.relative(0, 1, 20, 99), 1);
        x.seen(0, 1, 10, 110);
        CHECKS.due("down counts too", x.relative(0, 1, 20, 99), 1);
        x.seen(0, 1, 110, 10);
        CHECKS.due("across counts too", x.relative(0, 1, 20, 99), 1);
        x.seen(1, 0, -1, 0);
        CHECKS.due("one is left", x.relative(0, 1, 20, 0), 1);
        x.seen(0, 1, 500, 500);
        x.seen(0, 1, -1, 500);
        CHECKS.due("its shift stays", x.shift(0), 100);
        CHECKS.dueThrow("relative", Checks.INDEX, () -> x.relative(0, 4, 1, 1));
        CHECKS.due("its shift stays", x.shift(1), 0);
        CHECKS.due("both may be one photo", x.relative(1, 1, 2, 0), 1);
        CHECKS.due("with no shift", x.shift(0), 0);
        CHECKS.dueThrow("shift(2)", Checks.INDEX, () -> x.shift(2));
        CHECKS.dueThrow("shift(-1)", Checks.INDEX, () -> x.shift(-1));
    }

    private static void noPlaces() {
        PhotoModels x = new PhotoModels(6, 6, 3);
        CHECKS.due("no places at all", x.relative(0, 0, 20, 100), 0);
        CHECKS.dueThrow("shift", Checks.STATE, () -> x.shift(0));
        CHECKS.dueThrow("index ahead of state", Checks.INDEX, () -> x.shift(2));
        x.place();
        x.seen(0, 1, 5, 5);
        x.seen(0, 2, 6, 7);
        CHECKS.due("seen in both", x.relative(1, 2, 1, 0), 1);
        CHECKS.due("shift", x.shift(1), 2);
        CHECKS.due("seen in one alone", x.relative(0, 2, 1, 0), 0);
        CHECKS.dueThrow("shift of none", Checks.STATE, () -> x.shift(1));
    }

    /** "A place, seen nowhere, not spare" */
    private static void newPlaces() {
        PhotoModels x = new PhotoModels(6, 6, 0);
        for (int i = 0; i < 12; i++) {
            x.place();
            CHECKS.due("not spare", x.spare(i, false), false);
            for (int photo = 0; photo < 4; photo++) {
                CHECKS.due("seen nowhere", x.seen(i, photo, -1, 0), false);
                CHECKS.due("in no pair", x.relative(photo, photo, 1, 0), 0);
            }
            CHECKS.due("no share", x.miss(i), 0);
        }
    }

    /** "x below 0: not any more", whatever y is; "whether it was seen there" */
    private static void notAnyMore() {
        int[][] gone = {{-1, 0}, {-1, -1}, {-1, 1000}, {-1, Integer.MIN_VALUE}, {-1, Integer.MAX_VALUE},
            {-1000, 5}, {Integer.MIN_VALUE, 5}, {Integer.MIN_VALUE, Integer.MIN_VALUE}};
        PhotoModels x = new PhotoModels(6, 6, 0);
        x.place();
        for (int[] each : gone) {
            CHECKS.due("for the first time", x.seen(0, 3, 0, 0), false);
            CHECKS.due("again, at the same", x.seen(0, 3, 0, 0), true);
            CHECKS.due("again, at another", x.seen(0, 3, 4, 3), true);
            CHECKS.due("it has a share", x.miss(0), 25000000);
            CHECKS.due("not any more", x.seen(0, 3, each[0], each[1]), true);
            CHECKS.due("it has none", x.miss(0), 0);
            CHECKS.due("nor was it", x.seen(0, 3, each[0], each[1]), false);
            CHECKS.due("no pair", x.relative(3, 3, 1, 0), 0);
        }
    }

    private static void leastAndGreatestSightings() {
        PhotoModels x = new PhotoModels(6, 6, 0);
        x.place();
        int[][] edges = {{0, 0}, {999, 0}, {0, 999}, {999, 999}};
        for (int i = 0; i < 4; i++) {
            CHECKS.due("seen", x.seen(0, i, edges[i][0], edges[i][1]), false);
            long due = 1000000L * (edges[i][0] * edges[i][0] + edges[i][1] * edges[i][1]);
            CHECKS.due("its share", x.miss(0), due);
            x.seen(0, i, -1, 0);
        }
    }

    /** "differs by at most the tolerance across and down" */
    private static void toleranceAcrossAndDown() {
        for (int tolerance : new int[] {0, 1, 50, 99, 100}) {
            for (int more = 0; more < 2; more++) {
                int off = tolerance + more;
                int due = more == 0 ? 2 : 1;
                CHECKS.due("right by " + off, pairOff(off, 0, tolerance), due);
                CHECKS.due("left by " + off, pairOff(-off, 0, tolerance), due);
                CHECKS.due("down by " + off, pairOff(0, off, tolerance), due);
                CHECKS.due("up by " + off, pairOff(0, -off, tolerance), due);
                CHECKS.due("both by " + off, pairOff(off, -off, tolerance), due);
                CHECKS.due("one too far", pairOff(tolerance, off, tolerance), due);
            }
        }
        CHECKS.due("as far as can be", pairOff(499, -500, 100), 1);
    }

    private static int pairOff(int across, int down, int tolerance) {
        PhotoModels x = new PhotoModels(6, 6, 9);
        x.place();
        x.place();
        x.seen(0, 1, 20, 30);
        x.seen(0, 2, 500, 500);
        x.seen(1, 1, 20, 30);
        x.seen(1, 2, 500 + across, 500 + down);
        return x.relative(1, 2, 20, tolerance);
    }

    /** "in order, spare ones too" */
    private static void sparesDrawnToo() {
        PhotoModels x = new PhotoModels(6, 6, 65536);
        for (int i = 0; i < 3; i++) {
            x.place();
            x.seen(i, 0, 0, 0);
            x.seen(i, 1, i == 0 ? 0 : 100, 7);
            x.spare(i, true);
        }
        // Number 0 is 65536: modulo 3 it tells the place 1, with which the place 2 agrees.
        CHECKS.due("two spare ones agree", x.relative(0, 1, 1, 0), 2);
        CHECKS.due("shift across", x.shift(0), 100);
        CHECKS.due("shift down", x.shift(1), 7);
    }

    /** "tries is not 1 .. 20, or tolerance not 0 .. 100": the edges themselves are right. */
    private static void leastAndGreatestTries() {
        PhotoModels x = new PhotoModels(6, 6, 0);
        x.place();
        x.seen(0, 0, 0, 0);
        for (int tries : new int[] {1, 2, 19, 20}) {
            for (int tolerance : new int[] {0, 1, 99, 100}) {
                CHECKS.due("one place", x.relative(0, 0, tries, tolerance), 1);
                CHECKS.due("no place", x.relative(1, 0, tries, tolerance), 0);
            }
        }
    }

    /** "both may be one photo": all places seen in it agree, with no shift. */
    private static void onePhotoTwice() {
        PhotoModels x = new PhotoModels(6, 6, 4);
        for (int i = 0; i < 12; i++) {
            x.place();
            x.seen(i, 2, 83 * i, 999 - 90 * i);
            CHECKS.due("all agree", x.relative(2, 2, 1, 0), i + 1);
            CHECKS.due("across", x.shift(0), 0);
            CHECKS.due("down", x.shift(1), 0);
        }
    }

    /** "of the n places seen in both photos (in order ..)": others are not counted. */
    private static void inTheirOrder() {
        PhotoModels x = new PhotoModels(6, 6, 65536);
        for (int i = 0; i < 7; i++) {
            x.place();
        }
        // Told in another order, with places between them that only one of the photos sees.
        for (int place : new int[] {6, 2, 4}) {
            x.seen(place, 3, 500 + 10 * place, 500 - place);
            x.seen(place, 0, 500, 500);
        }
        x.seen(1, 0, 5, 5);
        x.seen(3, 3, 5, 5);
        x.seen(5, 1, 5, 5);
        // 65536 modulo 3 is 1: the place 4.
        CHECKS.due("itself alone", x.relative(0, 3, 1, 0), 1);
        CHECKS.due("across", x.shift(0), 40);
        CHECKS.due("down", x.shift(1), -4);
        CHECKS.due("itself alone", x.relative(3, 0, 1, 0), 1);
        CHECKS.due("across, the other way", x.shift(0), -40);
        CHECKS.due("down, the other way", x.shift(1), 4);
    }
}
