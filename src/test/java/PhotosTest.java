/** Promises 1 to 4 and 20: a new object, pixel, match, found, count. */
public final class PhotosTest {
    private static final Checks CHECKS = new Checks("PhotosTest");

    public static void main(String[] args) {
        newObject();
        sides();
        pixels();
        wrongPixels();
        matchInAnotherPhoto();
        firstOfEqualMatches();
        bestElsewhere();
        nearAndFar();
        foundStaysAsItWas();
        wrongMatches();
        counts();
        CHECKS.end();
    }

    private static void newObject() {
        PhotoModels x = new PhotoModels(8, 9, 1);
        for (int photo = 0; photo < 4; photo++) {
            for (int i = 0; i < 72; i++) {
                CHECKS.due("a new cell", x.pixel(photo, i % 8, i / 8, 0), 0);
            }
            CHECKS.due("a new offset across", x.offset(photo, 0), 0);
            CHECKS.due("a new offset down", x.offset(photo, 1), 0);
        }
        CHECKS.due("new sum", x.sum(), 0);
        CHECKS.due("new scale above", x.scale(0), 0);
        CHECKS.due("new scale below", x.scale(1), 1);
        CHECKS.due("new places", x.count(2), 0);
        CHECKS.due("new lengths", x.count(3), 0);
        CHECKS.due("new spares", x.count(4), 0);
        CHECKS.dueThrow("found(0)", Checks.STATE, () -> x.found(0));
        CHECKS.dueThrow("shift(0)", Checks.STATE, () -> x.shift(0));
        CHECKS.dueThrow("depth(0, 0)", Checks.STATE, () -> x.depth(0, 0));
        CHECKS.dueThrow("holes(0)", Checks.STATE, () -> x.holes(0));
        CHECKS.dueThrow("at(0, 0)", Checks.INDEX, () -> x.at(0, 0));
    }

    private static void sides() {
        int[] given = {Integer.MIN_VALUE, -1, 0, 5, 6, 7, 19, 20, 21, Integer.MAX_VALUE};
        int[] due = {6, 6, 6, 6, 6, 7, 19, 20, 20, 20};
        for (int i = 0; i < given.length; i++) {
            PhotoModels wide = new PhotoModels(given[i], 9, 0);
            CHECKS.due("width of " + given[i], wide.count(0), due[i]);
            CHECKS.due("height 9", wide.count(1), 9);
            PhotoModels high = new PhotoModels(9, given[i], 0);
            CHECKS.due("height of " + given[i], high.count(1), due[i]);
            CHECKS.due("width 9", high.count(0), 9);
        }
    }

    private static void pixels() {
        PhotoModels x = new PhotoModels(7, 11, 0);
        for (int photo = 0; photo < 4; photo++) {
            CHECKS.due("first cell", x.pixel(photo, 0, 0, 10 + photo), 0);
            CHECKS.due("last cell", x.pixel(photo, 6, 10, 20 + photo), 0);
            CHECKS.due("corner", x.pixel(photo, 6, 0, 255), 0);
        }
        for (int photo = 0; photo < 4; photo++) {
            CHECKS.due("first cell again", x.pixel(photo, 0, 0, 0), 10 + photo);
            CHECKS.due("last cell again", x.pixel(photo, 6, 10, 0), 20 + photo);
            CHECKS.due("corner again", x.pixel(photo, 6, 0, 7), 255);
            CHECKS.due("other corner", x.pixel(photo, 0, 10, 0), 0);
        }
    }

    private static void wrongPixels() {
        PhotoModels x = new PhotoModels(7, 11, 0);
        x.pixel(0, 0, 0, 33);
        int[][] outside = {{-1, 0, 0}, {4, 0, 0}, {0, -1, 0}, {0, 7, 0}, {0, 0, -1}, {0, 0, 11},
            {Integer.MIN_VALUE, 0, 0}, {0, Integer.MAX_VALUE, 0}, {0, 0, Integer.MIN_VALUE}};
        for (int[] each : outside) {
            CHECKS.dueThrow("pixel outside", Checks.INDEX, () -> x.pixel(each[0], each[1], each[2], 5));
            CHECKS.dueThrow("pixel outside, v too", Checks.INDEX, () -> x.pixel(each[0], each[1], each[2], 256));
        }
        for (int v : new int[] {-1, 256, Integer.MIN_VALUE, Integer.MAX_VALUE}) {
            CHECKS.dueThrow("pixel value", Checks.ARGUMENT, () -> x.pixel(0, 0, 0, v));
        }
        CHECKS.due("nothing changed", x.pixel(0, 0, 0, 0), 33);
    }

    private static void matchInAnotherPhoto() {
        PhotoModels x = new PhotoModels(10, 8, 0);
        int v = 1;
        for (int dy = -1; dy <= 1; dy++) {
            for (int dx = -1; dx <= 1; dx++) {
                x.pixel(2, 3 + dx, 4 + dy, v * 20);
                x.pixel(3, 8 + dx, 6 + dy, v * 20 + (v == 9 ? 3 : 0));
                v++;
            }
        }
        CHECKS.due("match(2, 3, 3, 4)", x.match(2, 3, 3, 4), 9);
        CHECKS.due("found x", x.found(0), 8);
        CHECKS.due("found y", x.found(1), 6);
        CHECKS.due("match(2, 2, 3, 4)", x.match(2, 2, 3, 4), 0);
        CHECKS.due("found x", x.found(0), 3);
        CHECKS.due("found y", x.found(1), 4);
        PhotoModels y = new PhotoModels(6, 6, 0);
        for (int i = 0; i < 36; i++) {
            y.pixel(1, i % 6, i / 6, 255);
        }
        CHECKS.due("the greatest miss", y.match(0, 1, 4, 4), 9 * 255 * 255);
        CHECKS.due("the greatest miss elsewhere", y.found(2), 9 * 255 * 255);
        CHECKS.due("first cell x", y.found(0), 1);
        CHECKS.due("first cell y", y.found(1), 1);
    }

    private static void firstOfEqualMatches() {
        PhotoModels x = new PhotoModels(9, 9, 0);
        x.pixel(0, 4, 4, 9);
        x.pixel(1, 6, 2, 9);
        x.pixel(1, 2, 6, 9);
        CHECKS.due("two equal", x.match(0, 1, 4, 4), 0);
        CHECKS.due("row by row: x", x.found(0), 6);
        CHECKS.due("row by row: y", x.found(1), 2);
        CHECKS.due("the other one", x.found(2), 0);
    }

    private static void bestElsewhere() {
        PhotoModels x = new PhotoModels(9, 9, 0);
        for (int i = 0; i < 81; i++) {
            x.pixel(1, i % 9, i / 9, 100);
        }
        x.pixel(1, 2, 2, 0);
        // Windows round (2, 2) miss by 8 * 10000, all others by 9 * 10000; the first lies at (1, 1).
        CHECKS.due("miss", x.match(0, 1, 1, 1), 80000);
        CHECKS.due("x", x.found(0), 1);
        CHECKS.due("y", x.found(1), 1);
        CHECKS.due("two off across is elsewhere", x.found(2), 80000);
        x.pixel(1, 2, 2, 100);
        x.pixel(1, 0, 4, 0);
        // Only the cells (1, 3), (1, 4), (1, 5) have the dark one: two off down is elsewhere.
        CHECKS.due("miss", x.match(0, 1, 1, 1), 80000);
        CHECKS.due("y", x.found(1), 3);
        CHECKS.due("two off down is elsewhere", x.found(2), 80000);
        x.pixel(1, 0, 4, 100);
        x.pixel(1, 0, 0, 0);
        CHECKS.due("miss", x.match(0, 1, 1, 1), 80000);
        CHECKS.due("the only one", x.found(2), 90000);
    }

    /** A lesser miss beside the found cell has no say, and every other cell has one. */
    private static void nearAndFar() {
        for (int farY = 1; farY <= 8; farY++) {
            for (int farX = 1; farX <= 10; farX++) {
                PhotoModels x = new PhotoModels(12, 10, 0);
                x.pixel(0, 5, 5, 200);
                x.pixel(1, 5, 5, 200);
                x.pixel(1, farX, farY, farX == 5 && farY == 5 ? 200 : 190);
                boolean near = Math.abs(farX - 5) <= 1 && Math.abs(farY - 5) <= 1;
                boolean inWindows = Math.abs(farX - 5) <= 2 && Math.abs(farY - 5) <= 2;
                x.match(0, 1, 5, 5);
                if (near) {
                    CHECKS.due("near " + farX + ", " + farY, x.found(2), 40000);
                } else if (!inWindows) {
                    CHECKS.due("far " + farX + ", " + farY, x.found(2), 100);
                }
            }
        }
    }

    private static void foundStaysAsItWas() {
        PhotoModels x = new PhotoModels(8, 8, 0);
        x.pixel(0, 3, 3, 40);
        x.pixel(1, 5, 5, 40);
        x.match(0, 1, 3, 3);
        x.pixel(1, 5, 5, 0);
        x.pixel(1, 2, 2, 40);
        CHECKS.dueThrow("match at the border", Checks.INDEX, () -> x.match(0, 1, 0, 3));
        CHECKS.due("x", x.found(0), 5);
        CHECKS.due("y", x.found(1), 5);
        CHECKS.due("elsewhere", x.found(2), 1600);
        CHECKS.dueThrow("found(-1)", Checks.INDEX, () -> x.found(-1));
        CHECKS.dueThrow("found(3)", Checks.INDEX, () -> x.found(3));
    }

    private static void wrongMatches() {
        PhotoModels x = new PhotoModels(7, 9, 0);
        int[][] wrong = {{-1, 0, 2, 2}, {4, 0, 2, 2}, {0, -1, 2, 2}, {0, 4, 2, 2}, {0, 1, 0, 2}, {0, 1, 6, 2},
            {0, 1, 2, 0}, {0, 1, 2, 8}, {0, 1, -1, 2}, {0, 1, 2, Integer.MAX_VALUE},
            {0, 1, Integer.MIN_VALUE, 2}};
        for (int[] each : wrong) {
            CHECKS.dueThrow("match", Checks.INDEX, () -> x.match(each[0], each[1], each[2], each[3]));
        }
        CHECKS.dueThrow("still no match", Checks.STATE, () -> x.found(2));
        CHECKS.dueThrow("index ahead of state", Checks.INDEX, () -> x.found(3));
        CHECKS.due("the last window", x.match(0, 1, 5, 7), 0);
        CHECKS.due("the first window", x.match(0, 1, 1, 1), 0);
    }

    private static void counts() {
        PhotoModels x = new PhotoModels(6, 6, 0);
        x.place();
        x.place();
        x.place();
        x.known(0, 1, 5);
        x.known(0, 1, 5);
        x.spare(2, true);
        CHECKS.due("places", x.count(2), 3);
        CHECKS.due("lengths", x.count(3), 2);
        CHECKS.due("spares", x.count(4), 1);
        for (int what : new int[] {-1, 5, Integer.MIN_VALUE, Integer.MAX_VALUE}) {
            CHECKS.dueThrow("count", Checks.INDEX, () -> x.count(what));
        }
    }
}
