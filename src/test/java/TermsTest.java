/** The edges that 'Terms' names for several promises, a test for each sentence. */
public final class TermsTest {
    private static final Checks CHECKS = new Checks("TermsTest");

    public static void main(String[] args) {
        sidesBelowAndAbove();
        valuesAtFirst();
        bordersAreNoWindows();
        nothingIsFoundAtTheBorder();
        missOfWindows();
        placesAndWhereTheyAreSeen();
        seedsBelowAndAbove();
        drawnNumbers();
        drawnNumberModuloPlaces();
        photoNoughtStays();
        sumLeavesSparesOut();
        meanIsRoundedDown();
        adjustedTillTheNextRun();
        newPlaceIsAtNought();
        begunAnew();
        begunPositions();
        photoWithoutPlacesStays();
        placeSeenNowhereStays();
        sparePlacesFollow();
        keptIfNotGreater();
        undoneIfGreater();
        sparesDoNotJudgeRounds();
        depthUpToFive();
        depthAtMostX();
        rowsAreApart();
        costOfARow();
        lesserDepthOfEqualCosts();
        CHECKS.end();
    }

    private static PhotoModels small() {
        return new PhotoModels(6, 6, 0);
    }

    private static PhotoModels withPlaces(int number) {
        PhotoModels x = small();
        for (int i = 0; i < number; i++) {
            x.place();
        }
        return x;
    }

    /** "of WIDTH and HEIGHT 6 .. 20 cells (what is given below or above that counts as ..)" */
    private static void sidesBelowAndAbove() {
        int[] given = {Integer.MIN_VALUE, -6, -1, 0, 1, 5, 6, 7, 19, 20, 21, 26, Integer.MAX_VALUE};
        int[] due = {6, 6, 6, 6, 6, 6, 6, 7, 19, 20, 20, 20, 20};
        for (int i = 0; i < given.length; i++) {
            hasSides("width of " + given[i], new PhotoModels(given[i], 9, 0), due[i], 9);
            hasSides("height of " + given[i], new PhotoModels(11, given[i], 0), 11, due[i]);
            hasSides("both of " + given[i], new PhotoModels(given[i], given[i], 0), due[i], due[i]);
        }
    }

    private static void hasSides(String call, PhotoModels x, int width, int height) {
        CHECKS.due(call + ": width", x.count(0), width);
        CHECKS.due(call + ": height", x.count(1), height);
        x.heights(0, 1, 0);
        for (int photo = 0; photo < 4; photo++) {
            int one = photo;
            CHECKS.due(call + ": last cell", x.pixel(photo, width - 1, height - 1, 3), 0);
            CHECKS.dueThrow(call + ": beyond across", Checks.INDEX, () -> x.pixel(one, width, height - 1, 3));
            CHECKS.dueThrow(call + ": beyond down", Checks.INDEX, () -> x.pixel(one, width - 1, height, 3));
        }
        CHECKS.due(call + ": last depth", x.depth(width - 1, height - 1), 0);
        CHECKS.dueThrow(call + ": depth beyond across", Checks.INDEX, () -> x.depth(width, 0));
        CHECKS.dueThrow(call + ": depth beyond down", Checks.INDEX, () -> x.depth(0, height));
    }

    /** "values 0 .. 255 (0 at first)" */
    private static void valuesAtFirst() {
        for (int photo = 0; photo < 4; photo++) {
            PhotoModels x = new PhotoModels(20, 20, 0);
            for (int i = 0; i < 400; i++) {
                CHECKS.due("at first", x.pixel(photo, i % 20, i / 20, i % 256), 0);
            }
            CHECKS.due("the least value", x.pixel(photo, 0, 0, 255), 0);
            CHECKS.due("the greatest value", x.pixel(photo, 0, 0, 0), 255);
        }
    }

    /** "A WINDOW is a cell that is not at the border, with the eight around it." */
    private static void bordersAreNoWindows() {
        int[][] sides = {{6, 6}, {7, 9}, {20, 6}, {6, 20}};
        for (int[] each : sides) {
            PhotoModels x = new PhotoModels(each[0], each[1], 0);
            for (int i = 0; i < each[0] * each[1]; i++) {
                int across = i % each[0];
                int down = i / each[0];
                boolean border = across == 0 || down == 0 || across == each[0] - 1 || down == each[1] - 1;
                String call = "match at " + across + ", " + down + " of " + each[0] + ", " + each[1];
                if (border) {
                    CHECKS.dueThrow(call, Checks.INDEX, () -> x.match(0, 1, across, down));
                } else {
                    CHECKS.due(call, x.match(0, 1, across, down), 0);
                }
            }
        }
    }

    private static void nothingIsFoundAtTheBorder() {
        int[][] border = {{0, 3}, {5, 3}, {3, 0}, {3, 5}, {5, 5}, {5, 0}, {0, 5}};
        for (int[] each : border) {
            PhotoModels x = small();
            x.pixel(0, 2, 2, 200);
            x.pixel(1, each[0], each[1], 200);
            // Around the cell at the border all would be alike; windows that have it miss by 80000.
            CHECKS.due("miss of windows without it", x.match(0, 1, 2, 2), 40000);
            CHECKS.due("x of the first window", x.found(0), 1);
            CHECKS.due("y of the first window", x.found(1), 1);
        }
    }

    /** "The MISS of two windows: the sum of the squares of the differences of their cells." */
    private static void missOfWindows() {
        for (int cell = 0; cell < 9; cell++) {
            PhotoModels x = small();
            for (int i = 0; i < 36; i++) {
                x.pixel(0, i % 6, i / 6, 100);
                x.pixel(1, i % 6, i / 6, 90);
            }
            x.pixel(0, 2 + cell % 3, 2 + cell / 3, 60);
            CHECKS.due("one cell is less, eight are more", x.match(0, 1, 3, 3), 900 + 8 * 100);
            CHECKS.due("and the other way", x.match(1, 0, 3, 3), 9 * 100);
        }
    }

    /** "PLACES are 0 .. 11, each SEEN in some photos, at x, y of 0 .. 999." */
    private static void placesAndWhereTheyAreSeen() {
        PhotoModels x = small();
        int[][] corners = {{0, 0}, {0, 999}, {999, 0}, {999, 999}};
        for (int i = 0; i < 12; i++) {
            CHECKS.due("place", x.place(), i);
            int[] at = corners[i % 4];
            CHECKS.due("seen", x.seen(i, i % 3 + 1, at[0], at[1]), false);
        }
        CHECKS.dueThrow("a thirteenth", Checks.STATE, x::place);
        x.run(0);
        for (int i = 0; i < 12; i++) {
            CHECKS.due("across of " + i, x.at(i, 0), 1000 * corners[i % 4][0]);
            CHECKS.due("down of " + i, x.at(i, 1), 1000 * corners[i % 4][1]);
        }
    }

    /** Twelve places of which only that one has two others that agree. */
    private static PhotoModels oneWithTwo(int seed, int one) {
        PhotoModels x = new PhotoModels(6, 6, seed);
        for (int i = 0; i < 12; i++) {
            x.place();
            x.seen(i, 0, 0, 0);
            int apart = (i - one + 12) % 12;
            x.seen(i, 1, apart == 0 ? 500 : apart == 1 ? 490 : apart == 2 ? 510 : 30 * apart, 0);
        }
        return x;
    }

    /** firstDrawn[i] is the first t whose drawn number modulo 12 is i. */
    private static void firstDrawn(int seed, int[] firstDrawn) {
        for (int i = 0; i < 12; i++) {
            PhotoModels x = oneWithTwo(seed, i);
            for (int tries = 1; tries <= 20; tries++) {
                boolean drawn = firstDrawn[i] < tries;
                String call = "place " + i + " by seed " + seed + " in " + tries;
                CHECKS.due(call, x.relative(0, 1, tries, 10) == 3, drawn);
                CHECKS.due(call + ": shift", x.shift(0) == 500, drawn);
            }
        }
    }

    /** "the SEED is 0 .. 65536 (likewise)": 65537 is not 0 once more, nor -1 the greatest. */
    private static void seedsBelowAndAbove() {
        int[] least = {9, 1, 7, 13, 5, 11, 2, 8, 0, 6, 12, 3};
        int[] greatest = {5, 11, 3, 9, 0, 6, 12, 4, 10, 2, 8, 14};
        for (int seed : new int[] {0, -1, -65537, Integer.MIN_VALUE}) {
            firstDrawn(seed, least);
        }
        for (int seed : new int[] {65536, 65537, 131073, Integer.MAX_VALUE}) {
            firstDrawn(seed, greatest);
        }
    }

    /** "z is (seed + 101 t) modulo 65537; three times z becomes (75 z + 74) modulo 65537." */
    private static void drawnNumbers() {
        firstDrawn(1, new int[] {13, 5, 11, 3, 9, 0, 6, 12, 4, 10, 2, 7});
        firstDrawn(32768, new int[] {7, 13, 5, 11, 3, 8, 0, 6, 12, 4, 10, 1});
        // From t = 1 and t = 10 on, seed + 101 t is above the modulus.
        firstDrawn(65535, new int[] {1, 7, 13, 5, 11, 2, 8, 0, 6, 12, 4, 9});
        firstDrawn(64527, new int[] {5, 11, 3, 9, 0, 6, 12, 4, 10, 2, 7, 13});
    }

    /** "the drawn number modulo n tells one": number 0 is 28652 by seed 0, and 65536 by 65536. */
    private static void drawnNumberModuloPlaces() {
        int[] bySeed0 = {0, 0, 2, 0, 2, 2, 1, 4, 5, 2, 8, 8};
        int[] bySeed65536 = {0, 0, 1, 0, 1, 4, 2, 0, 7, 6, 9, 4};
        for (int n = 1; n <= 12; n++) {
            CHECKS.due("28652 modulo " + n, firstOf(n, 0), bySeed0[n - 1]);
            CHECKS.due("65536 modulo " + n, firstOf(n, 65536), bySeed65536[n - 1]);
        }
    }

    private static int firstOf(int n, int seed) {
        PhotoModels x = new PhotoModels(6, 6, seed);
        for (int i = 0; i < n; i++) {
            x.place();
            x.seen(i, 2, 40, 40);
            x.seen(i, 3, 40 + i, 40);
        }
        CHECKS.due("it agrees with itself alone", x.relative(2, 3, 1, 0), 1);
        return x.shift(0);
    }

    /** "photo 0 has offset 0 for ever" */
    private static void photoNoughtStays() {
        PhotoModels x = withPlaces(2);
        x.seen(0, 0, 500, 300);
        x.seen(0, 1, 100, 900);
        x.seen(1, 0, 700, 10);
        CHECKS.due("run(20)", x.run(20), 20);
        CHECKS.due("across", x.offset(0, 0), 0);
        CHECKS.due("down", x.offset(0, 1), 0);
        CHECKS.due("photo 1 moves", x.offset(1, 0) < -399000 && x.offset(1, 1) > 599000, true);
    }

    /** "over all places that are not SPARE and all photos in which they are seen" */
    private static void sumLeavesSparesOut() {
        PhotoModels x = withPlaces(3);
        x.seen(0, 0, 1, 2);
        x.seen(1, 3, 3, 0);
        x.seen(1, 1, 0, 4);
        CHECKS.due("all photos", x.sum(), 1000000L * (1 + 4 + 9 + 16));
        x.spare(1, true);
        CHECKS.due("without place 1", x.sum(), 1000000L * (1 + 4));
        x.spare(0, true);
        CHECKS.due("without any", x.sum(), 0);
        x.spare(1, false);
        CHECKS.due("without place 0", x.sum(), 1000000L * (9 + 16));
        x.seen(1, 3, -1, 0);
        CHECKS.due("without photo 3", x.sum(), 1000000L * 16);
    }

    /** "divided by how many and rounded down (towards the lesser whole number)" */
    private static void meanIsRoundedDown() {
        PhotoModels x = withPlaces(3);
        x.seen(0, 0, 0, 1);
        x.seen(0, 1, 1, 0);
        x.seen(1, 1, 7, 7);
        x.seen(2, 1, 7, 7);
        CHECKS.due("run(1)", x.run(1), 1);
        // Begun, place 0 is at 500, 500; photo 1 has 500, 0, 0 across and -500, 0, 0 down.
        CHECKS.due("500 / 3", x.offset(1, 0), 166);
        CHECKS.due("-500 / 3", x.offset(1, 1), -167);
        CHECKS.due("(0 + 1000 - 166) / 2", x.at(0, 0), 417);
        CHECKS.due("(1000 + 0 + 167) / 2", x.at(0, 1), 583);
        PhotoModels y = withPlaces(3);
        y.seen(0, 0, 0, 0);
        y.seen(0, 1, 1, 1);
        for (int i = 1; i < 3; i++) {
            y.spare(i, true);
            y.seen(i, 0, 0, 0);
            y.seen(i, 1, 0, 0);
            y.seen(i, i == 1 ? 3 : 1, 0, 0);
        }
        y.run(1);
        CHECKS.due("500 / 1", y.offset(1, 1), 500);
        CHECKS.due("-500 / 3 for a position", y.at(1, 0), -167);
        CHECKS.due("-500 / 2 is whole", y.at(2, 1), -250);
    }

    /** "Positions and offsets stay till the next run(), whatever is told" */
    private static void adjustedTillTheNextRun() {
        PhotoModels x = withPlaces(2);
        x.seen(0, 0, 10, 20);
        x.seen(0, 1, 30, 24);
        x.run(1);
        String[] told = {"seen", "seen no more", "spare", "not spare", "place", "known", "pixel", "match", "relative",
            "heights", "a run that is refused"};
        for (int i = 0; i < told.length; i++) {
            tell(x, i);
            CHECKS.due(told[i] + ": at across", x.at(0, 0), 15000);
            CHECKS.due(told[i] + ": at down", x.at(0, 1), 21000);
            CHECKS.due(told[i] + ": offset across", x.offset(1, 0), 10000);
            CHECKS.due(told[i] + ": offset down", x.offset(1, 1), 2000);
            CHECKS.due(told[i] + ": a place seen nowhere then", x.at(1, 0), 0);
        }
    }

    private static void tell(PhotoModels x, int what) {
        switch (what) {
            case 0 -> x.seen(1, 1, 500, 600);
            case 1 -> x.seen(0, 1, -1, 0);
            case 2 -> x.spare(0, true);
            case 3 -> x.spare(0, false);
            case 4 -> x.place();
            case 5 -> x.known(0, 1, 10000);
            case 6 -> x.pixel(0, 1, 1, 200);
            case 7 -> x.match(0, 1, 1, 1);
            case 8 -> x.relative(0, 1, 20, 100);
            case 9 -> x.heights(0, 1, 10);
            default -> CHECKS.dueThrow("run(21)", Checks.ARGUMENT, () -> x.run(21));
        }
    }

    /** "a new place is at 0, 0": whatever the others and the photos have. */
    private static void newPlaceIsAtNought() {
        PhotoModels x = withPlaces(1);
        x.seen(0, 1, 900, 900);
        x.run(20);
        for (int i = 1; i < 12; i++) {
            CHECKS.due("place", x.place(), i);
            CHECKS.due("across", x.at(i, 0), 0);
            CHECKS.due("down", x.at(i, 1), 0);
            x.seen(i, 1, 5, 5);
            CHECKS.due("across, seen", x.at(i, 0), 0);
        }
        CHECKS.due("the old one stays", x.at(0, 1), 900000);
    }

    /** "BEGUN, all offsets are 0" */
    private static void begunAnew() {
        PhotoModels x = withPlaces(1);
        for (int photo = 0; photo < 4; photo++) {
            x.seen(0, photo, 100 * photo, 300 - 50 * photo);
        }
        x.run(20);
        for (int photo = 1; photo < 4; photo++) {
            CHECKS.due("moved across", x.offset(photo, 0) > 0, true);
            CHECKS.due("moved down", x.offset(photo, 1) < 0, true);
        }
        CHECKS.due("run(0)", x.run(0), 0);
        for (int photo = 0; photo < 4; photo++) {
            CHECKS.due("across", x.offset(photo, 0), 0);
            CHECKS.due("down", x.offset(photo, 1), 0);
        }
        x.run(20);
        x.seen(0, 3, -1, 0);
        x.run(1);
        CHECKS.due("a photo that nothing is seen in any more", x.offset(3, 0), 0);
    }

    /** "each place's position is the mean of 1000 times where it is seen (0 if nowhere)" */
    private static void begunPositions() {
        PhotoModels x = withPlaces(5);
        int[][] seen = {{0, 999}, {1, 0}, {1, 0}, {2, 7}};
        for (int place = 1; place < 5; place++) {
            for (int photo = 0; photo < place; photo++) {
                x.seen(place, photo, seen[photo][0], seen[photo][1]);
            }
        }
        x.spare(4, true);
        x.run(0);
        int[][] due = {{0, 0}, {0, 999000}, {500, 499500}, {666, 333000}, {1000, 251500}};
        for (int place = 0; place < 5; place++) {
            CHECKS.due("across, seen in " + place, x.at(place, 0), due[place][0]);
            CHECKS.due("down, seen in " + place, x.at(place, 1), due[place][1]);
        }
        x.seen(1, 0, -1, 0);
        x.run(0);
        CHECKS.due("seen nowhere any more", x.at(1, 1), 0);
    }

    /** "over the places that are not spare and are seen in it .. (it stays without any)" */
    private static void photoWithoutPlacesStays() {
        PhotoModels x = withPlaces(2);
        x.seen(0, 0, 10, 10);
        x.seen(0, 1, 20, 20);
        x.seen(1, 0, 10, 10);
        x.seen(1, 2, 900, 900);
        x.spare(1, true);
        CHECKS.due("run(1)", x.run(1), 1);
        CHECKS.due("seen by one", x.offset(1, 0), 5000);
        CHECKS.due("seen by a spare one", x.offset(2, 0), 0);
        CHECKS.due("seen by none", x.offset(3, 1), 0);
        CHECKS.due("run(20)", x.run(20), 20);
        CHECKS.due("seen by a spare one, still", x.offset(2, 1), 0);
        CHECKS.due("seen by none, still", x.offset(3, 0), 0);
        x.spare(1, false);
        x.run(1);
        CHECKS.due("not spare any more", x.offset(2, 0), 445000);
    }

    /** "(0 if nowhere)", and a round leaves it there. */
    private static void placeSeenNowhereStays() {
        PhotoModels x = withPlaces(2);
        x.seen(0, 0, 10, 10);
        x.seen(0, 1, 20, 0);
        for (int rounds = 0; rounds <= 20; rounds++) {
            CHECKS.due("all are kept", x.run(rounds), rounds);
            CHECKS.due("across", x.at(1, 0), 0);
            CHECKS.due("down", x.at(1, 1), 0);
            CHECKS.due("no share", x.miss(1), 0);
            CHECKS.due("the sum without it", x.sum(), x.miss(0));
        }
    }

    /** "then all places": spare ones are moved too. */
    private static void sparePlacesFollow() {
        PhotoModels x = withPlaces(2);
        x.seen(0, 0, 10, 50);
        x.seen(0, 1, 20, 10);
        x.seen(1, 1, 300, 300);
        x.spare(1, true);
        x.run(1);
        CHECKS.due("across, less the offset", x.at(1, 0), 295000);
        CHECKS.due("down, less the offset", x.at(1, 1), 320000);
    }

    /** "It is KEPT if the sum is not greater than ahead of it." */
    private static void keptIfNotGreater() {
        PhotoModels x = small();
        CHECKS.due("no places: 0 and 0 again", x.run(20), 20);
        x.place();
        CHECKS.due("seen nowhere: 0 and 0 again", x.run(20), 20);
        x.seen(0, 0, 5, 5);
        x.place();
        x.seen(1, 0, 9, 9);
        x.seen(1, 1, 9, 9);
        CHECKS.due("all fits: 0 and 0 again", x.run(20), 20);
        PhotoModels y = withPlaces(2);
        for (int place = 0; place < 2; place++) {
            y.seen(place, 0, 0, 0);
            y.seen(place, 1, 40 * place, 0);
        }
        CHECKS.due("lesser till then", y.run(14), 14);
        CHECKS.due("two more than the least", y.sum(), 400000002);
        // From round 15 on nothing moves any more, and the sum is the same.
        for (int rounds = 15; rounds <= 20; rounds++) {
            CHECKS.due("all are kept", y.run(rounds), rounds);
            CHECKS.due("the same again and again", y.sum(), 400000000);
            CHECKS.due("offset", y.offset(1, 0), 20000);
        }
    }

    private static PhotoModels risingAtTheFifth(int axis) {
        PhotoModels x = withPlaces(4);
        int[][] where = {{0, 3, 3}, {1, 2, 3}, {3, 3, -1}};
        for (int place = 0; place < 3; place++) {
            for (int i = 0; i < 3 && where[place][i] >= 0; i++) {
                int at = where[place][i];
                x.seen(place, i + 1, axis == 0 ? at : 0, axis == 0 ? 0 : at);
            }
        }
        x.spare(3, true);
        x.seen(3, 2, 9, 9);
        return x;
    }

    /** "one that is not is undone, and ends it" (promise 10) */
    private static void undoneIfGreater() {
        for (int axis = 0; axis < 2; axis++) {
            PhotoModels x = risingAtTheFifth(axis);
            CHECKS.due("three are kept", x.run(3), 3);
            CHECKS.due("four are kept", x.run(4), 4);
            for (int rounds = 4; rounds <= 20; rounds++) {
                // A fifth round would move photo 2 to 291 alone, and raise the sum by 1.
                CHECKS.due("four of " + rounds, x.run(rounds), 4);
                CHECKS.due("sum", x.sum(), 2333334);
                CHECKS.due("photo 1", x.offset(1, axis), -1042);
                CHECKS.due("photo 2", x.offset(2, axis), 292);
                CHECKS.due("photo 3", x.offset(3, axis), 1125);
                CHECKS.due("the other axis", x.offset(2, 1 - axis), 0);
                CHECKS.due("place 0", x.at(0, axis), 1875);
                CHECKS.due("place 1", x.at(1, axis), 1875);
                CHECKS.due("place 2", x.at(2, axis), 3375);
                CHECKS.due("the spare place", x.at(3, axis), 8708);
            }
        }
    }

    /** The sum that tells whether a round is kept has no spare places in it. */
    private static void sparesDoNotJudgeRounds() {
        PhotoModels x = withPlaces(2);
        x.seen(0, 0, 100, 100);
        x.seen(0, 1, 110, 100);
        x.seen(1, 0, 310, 200);
        x.seen(1, 1, 200, 200);
        x.spare(1, true);
        x.run(0);
        CHECKS.due("its miss at first", x.miss(1), 2 * 55000L * 55000L);
        CHECKS.due("all are kept", x.run(20), 20);
        CHECKS.due("its miss grows", x.miss(1), 2 * 60000L * 60000L);
    }

    /** "each cell x of a row of a gets a DEPTH 0 .. 5" */
    private static void depthUpToFive() {
        for (int depth = 0; depth <= 7; depth++) {
            PhotoModels x = new PhotoModels(20, 6, 0);
            x.pixel(0, 12, 4, 200);
            x.pixel(1, 12 - depth, 4, 200);
            CHECKS.due("cost for depth " + depth, x.heights(0, 1, 0), depth <= 5 ? 0 : 200);
            CHECKS.due("depth " + depth, x.depth(12, 4), depth <= 5 ? depth : 0);
            CHECKS.due("hole for depth " + depth, x.holes(199), depth <= 5 ? 0 : 1);
            // Cells that would lie on the bright one go round it by one more.
            CHECKS.due("beside it", x.depth(12 - depth, 4), depth == 0 ? 0 : 1);
        }
        PhotoModels y = new PhotoModels(20, 6, 0);
        y.pixel(0, 12, 4, 200);
        y.pixel(1, 13, 4, 200);
        CHECKS.due("never to the right", y.heights(0, 1, 0), 200);
    }

    /** "at most x": the cells 0 .. 5 of a row have 1 .. 6 depths, all later ones have 6. */
    private static void depthAtMostX() {
        for (int cell = 0; cell < 7; cell++) {
            PhotoModels x = new PhotoModels(7, 6, 0);
            for (int i = 0; i < 7; i++) {
                x.pixel(0, i, 1, i == cell ? 7 : 100);
                x.pixel(1, i, 1, i == 0 ? 7 : 100);
            }
            // Only cell 0 of b is dark: it is out of reach for cell 6, and cell 0 has no other one.
            int due = (cell == 0 ? 0 : 93) + (cell == 6 ? 93 : 0);
            CHECKS.due("cost with the dark one at " + cell, x.heights(0, 1, 0), due);
            CHECKS.due("its depth", x.depth(cell, 1), cell == 6 ? 0 : cell);
            CHECKS.due("cell 0 is at 0", x.depth(0, 1), 0);
        }
    }

    /** "of that row of b": nothing lies on the end of the row above. */
    private static void rowsAreApart() {
        for (int cell = 0; cell < 5; cell++) {
            PhotoModels x = small();
            x.pixel(0, cell, 1, 200);
            x.pixel(1, 5, 0, 200);
            x.pixel(1, cell, 2, 200);
            int alone = cell == 0 ? 200 : 0;
            CHECKS.due("cost", x.heights(0, 1, 0), 200 + alone);
            CHECKS.due("depth", x.depth(cell, 1), 0);
        }
    }

    /** "for each cell the difference (without sign) .. and for each but the first PENALTY times .." */
    private static void costOfARow() {
        PhotoModels x = small();
        for (int y = 0; y < 6; y++) {
            x.pixel(0, 0, y, 40);
            x.pixel(1, 0, y, 10 * y);
        }
        // Only cell 0 is bound to cell 0 of b; whatever lies there, the others lie beside it.
        CHECKS.due("40, 30, 20, 10, 0 and 10", x.heights(0, 1, 100), 110);
        CHECKS.due("with the photos changed round", x.heights(1, 0, 100), 110);
        PhotoModels y = small();
        y.pixel(0, 5, 0, 255);
        y.pixel(1, 0, 0, 255);
        y.pixel(0, 0, 0, 255);
        CHECKS.due("five up for 50 each", y.heights(0, 1, 50), 250);
        CHECKS.due("depth", y.depth(5, 0), 5);
        CHECKS.due("five up for 51 each, or 255", y.heights(0, 1, 51), 255);
        CHECKS.due("the lesser depth of equal costs", y.depth(5, 0), 0);
        CHECKS.due("52 each are too dear", y.heights(0, 1, 52), 255);
        CHECKS.due("depth", y.depth(5, 0), 0);
        CHECKS.due("49 each", y.heights(0, 1, 49), 245);
        CHECKS.due("depth", y.depth(5, 0), 5);
    }

    /** "of equal ones those with the lesser depth in the last cell in which they differ" */
    private static void lesserDepthOfEqualCosts() {
        PhotoModels x = small();
        x.pixel(0, 3, 2, 250);
        x.pixel(1, 2, 2, 250);
        // Cell 3 lies on cell 2, cell 2 must not; the climb may be at 1 or 2, and one down costs more.
        CHECKS.due("one up", x.heights(0, 1, 7), 7);
        depthsOfRow("late up", x, 2, 0, 0, 1, 1, 1, 1);
        x.pixel(0, 5, 2, 250);
        x.pixel(1, 5, 2, 250);
        CHECKS.due("one up, one down", x.heights(0, 1, 7), 14);
        depthsOfRow("early down", x, 2, 0, 0, 1, 1, 0, 0);
        CHECKS.due("no penalty", x.heights(0, 1, 0), 0);
        depthsOfRow("each by itself", x, 2, 0, 0, 1, 1, 0, 0);
        CHECKS.due("alike", x.heights(2, 3, 0), 0);
        depthsOfRow("all at 0", x, 2, 0, 0, 0, 0, 0, 0);
        // To go up by 1 ahead of cell 3 costs as much as it spares.
        PhotoModels y = small();
        y.pixel(0, 4, 0, 10);
        y.pixel(1, 3, 0, 10);
        y.pixel(1, 4, 0, 10);
        y.pixel(1, 5, 0, 10);
        CHECKS.due("10 for cell 5, and 10 for cell 3 or the way up", y.heights(0, 1, 10), 20);
        depthsOfRow("all low", y, 0, 0, 0, 0, 0, 0, 0);
    }

    private static void depthsOfRow(String call, PhotoModels x, int y, int... due) {
        for (int i = 0; i < due.length; i++) {
            CHECKS.due(call + ", cell " + i, x.depth(i, y), due[i]);
        }
    }
}
