/** Promises 1 to 4 and 20: a new object, pixel, match, found, count. */
public final class PhotosTest {
    private static final Checks CHECKS = new Checks("PhotosTest");

    public static void main(String[] args) {
        newObject();
        pixels();
        matchInAnotherPhoto();
        firstOfEqualMatches();
        bestElsewhere();
        nearAndFar();
        foundStaysAsItWas();
        counts();
        cellsAreApart();
        matchInItself();
        rowByRow();
        moreThanOneCellFrom();
        thereIsAlwaysAnotherCell();
        foundOfTheLatest();
        countsOfANewObject();
        countsAtTheirMost();
        CHECKS.end();
    }

    private static void newObject() {
        PhotoModels x = new PhotoModels(8, 9, 1);
        for (int photo = 0; photo < 4; photo++) {
            for (int i = 0; i < 72; i++) {
                CHECKS.due("a new cell", x.pixel(photo, i % 8, i / 8, 0), 0);
            }
            CHECKS.due("a new offset across", x.offset(photo, 0), 0);
            CHECKS.due("a new offset down", x.offset(photo, 1), 0);
        }
        CHECKS.due("new sum", x.sum(), 0);
        CHECKS.due("new scale above", x.scale(0), 0);
        CHECKS.due("new scale below", x.scale(1), 1);
        CHECKS.due("new places", x.count(2), 0);
        CHECKS.due("new lengths", x.count(3), 0);
        CHECKS.due("new spares", x.count(4), 0);
        CHECKS.dueThrow("found(0)", Checks.STATE, () -> x.found(0));
        CHECKS.dueThrow("shift(0)", Checks.STATE, () -> x.shift(0));
        CHECKS.dueThrow("depth(0, 0)", Checks.STATE, () -> x.depth(0, 0));
        CHECKS.dueThrow("holes(0)", Checks.STATE, () -> x.holes(0));
        CHECKS.dueThrow("at(0, 0)", Checks.INDEX, () -> x.at(0, 0));
    }

    private static void pixels() {
        PhotoModels x = new PhotoModels(7, 11, 0);
        for (int photo = 0; photo < 4; photo++) {
            CHECKS.due("first cell", x.pixel(photo, 0, 0, 10 + photo), 0);
            CHECKS.due("last cell", x.pixel(photo, 6, 10, 20 + photo), 0);
            CHECKS.due("corner", x.pixel(photo, 6, 0, 255), 0);
        }
        for (int photo = 0; photo < 4; photo++) {
            CHECKS.due("first cell again", x.pixel(photo, 0, 0, 0), 10 + photo);
            CHECKS.due("last cell again", x.pixel(photo, 6, 10, 0), 20 + photo);
            CHECKS.due("corner again", x.pixel(photo, 6, 0, 7), 255);
            CHECKS.due("other corner", x.pixel(photo, 0, 10, 0), 0);
        }
    }

    private static void matchInAnotherPhoto() {
        PhotoModels x = new PhotoModels(10, 8, 0);
        int v = 1;
        for (int dy = -1; dy <= 1; dy++) {
            for (int dx = -1; dx <= 1; dx++) {
                x.pixel(2, 3 + dx, 4 + dy, v * 20);
                x.pixel(3, 8 + dx, 6 + dy, v * 20 + (v == 9 ? 3 : 0));
                v++;
            }
        }
        CHECKS.due("match(2, 3, 3, 4)", x.match(2, 3, 3, 4), 9);
        CHECKS.due("found x", x.found(0), 8);
        CHECKS.due("found y", x.found(1), 6);
        CHECKS.due("match(2, 2, 3, 4)", x.match(2, 2, 3, 4), 0);
        CHECKS.due("found x", x.found(0), 3);
        CHECKS.due("found y", x.found(1), 4);
        PhotoModels y = new PhotoModels(6, 6, 0);
        for (int i = 0; i < 36; i++) {
            y.pixel(1, i % 6, i / 6, 255);
        }
        CHECKS.due("the greatest miss", y.match(0, 1, 4, 4), 9 * 255 * 255);
        CHECKS.due("the greatest miss elsewhere", y.found(2), 9 * 255 * 255);
        CHECKS.due("first cell x", y.found(0), 1);
        CHECKS.due("first cell y", y.found(1), 1);
    }

    private static void firstOfEqualMatches() {
        PhotoModels x = new PhotoModels(9, 9, 0);
        x.pixel(0, 4, 4, 9);
        x.pixel(1, 6, 2, 9);
        x.pixel(1, 2, 6, 9);
        CHECKS.due("two equal", x.match(0, 1, 4, 4), 0);
        CHECKS.due("row by row: x", x.found(0), 6);
        CHECKS.due("row by row: y", x.found(1), 2);
        CHECKS.due("the other one", x.found(2), 0);
    }

    private static void bestElsewhere() {
        PhotoModels x = new PhotoModels(9, 9, 0);
        for (int i = 0; i < 81; i++) {
            x.pixel(1, i % 9, i / 9, 100);
        }
        x.pixel(1, 2, 2, 0);
        // Windows round (2, 2) miss by 8 * 10000, all others by 9 * 10000; the first lies at (1, 1).
        CHECKS.due("miss", x.match(0, 1, 1, 1), 80000);
        CHECKS.due("x", x.found(0), 1);
        CHECKS.due("y", x.found(1), 1);
        CHECKS.due("two off across is elsewhere", x.found(2), 80000);
        x.pixel(1, 2, 2, 100);
        x.pixel(1, 0, 4, 0);
        // Only the cells (1, 3), (1, 4), (1, 5) have the dark one: two off down is elsewhere.
        CHECKS.due("miss", x.match(0, 1, 1, 1), 80000);
        CHECKS.due("y", x.found(1), 3);
        CHECKS.due("two off down is elsewhere", x.found(2), 80000);
        x.pixel(1, 0, 4, 100);
        x.pixel(1, 0, 0, 0);
        CHECKS.due("miss", x.match(0, 1, 1, 1), 80000);
        CHECKS.due("the only one", x.found(2), 90000);
    }

    /** A lesser miss beside the found cell has no say, and every other cell has one. */
    private static void nearAndFar() {
        for (int farY = 1; farY <= 8; farY++) {
            for (int farX = 1; farX <= 10; farX++) {
                PhotoModels x = new PhotoModels(12, 10, 0);
                x.pixel(0, 5, 5, 200);
                x.pixel(1, 5, 5, 200);
                x.pixel(1, farX, farY, farX == 5 && farY == 5 ? 200 : 190);
                boolean near = Math.abs(farX - 5) <= 1 && Math.abs(farY - 5) <= 1;
                boolean inWindows = Math.abs(farX - 5) <= 2 && Math.abs(farY - 5) <= 2;
                x.match(0, 1, 5, 5);
                if (near) {
                    CHECKS.due("near " + farX + ", " + farY, x.found(2), 40000);
                } else if (!inWindows) {
                    CHECKS.due("far " + farX + ", " + farY, x.found(2), 100);
                }
            }
        }
    }

    private static void foundStaysAsItWas() {
        PhotoModels x = new PhotoModels(8, 8, 0);
        x.pixel(0, 3, 3, 40);
        x.pixel(1, 5, 5, 40);
        x.match(0, 1, 3, 3);
        x.pixel(1, 5, 5, 0);
        x.pixel(1, 2, 2, 40);
        CHECKS.dueThrow("match at the border", Checks.INDEX, () -> x.match(0, 1, 0, 3));
        CHECKS.due("x", x.found(0), 5);
        CHECKS.due("y", x.found(1), 5);
        CHECKS.due("elsewhere", x.found(2), 1600);
        CHECKS.dueThrow("found(-1)", Checks.INDEX, () -> x.found(-1));
        CHECKS.dueThrow("found(3)", Checks.INDEX, () -> x.found(3));
    }

    private static void counts() {
        PhotoModels x = new PhotoModels(6, 6, 0);
        x.place();
        x.place();
        x.place();
        x.known(0, 1, 5);
        x.known(0, 1, 5);
        x.spare(2, true);
        CHECKS.due("places", x.count(2), 3);
        CHECKS.due("lengths", x.count(3), 2);
        CHECKS.due("spares", x.count(4), 1);
        for (int what : new int[] {-1, 5, Integer.MIN_VALUE, Integer.MAX_VALUE}) {
            CHECKS.dueThrow("count", Checks.INDEX, () -> x.count(what));
        }
    }

    /** "A cell: what it was": the greatest, the least and the same value, and no other cell. */
    private static void cellsAreApart() {
        PhotoModels x = new PhotoModels(6, 7, 0);
        for (int i = 0; i < 4 * 42; i++) {
            CHECKS.due("at first", x.pixel(i / 42, i % 6, i % 42 / 6, i), 0);
        }
        for (int i = 0; i < 4 * 42; i++) {
            CHECKS.due("what it was", x.pixel(i / 42, i % 6, i % 42 / 6, 255), i);
        }
        CHECKS.due("the greatest", x.pixel(2, 3, 4, 255), 255);
        CHECKS.due("the same", x.pixel(2, 3, 4, 0), 255);
        CHECKS.due("the least", x.pixel(2, 3, 4, 0), 0);
        CHECKS.due("the same", x.pixel(2, 3, 4, 1), 0);
    }

    /** A photo may be searched for its own window: the first of its kind is found. */
    private static void matchInItself() {
        PhotoModels x = new PhotoModels(8, 8, 0);
        x.pixel(3, 5, 5, 90);
        CHECKS.due("its own window", x.match(3, 3, 5, 5), 0);
        CHECKS.due("x", x.found(0), 5);
        CHECKS.due("y", x.found(1), 5);
        x.pixel(3, 2, 2, 90);
        CHECKS.due("the first of two", x.match(3, 3, 5, 5), 0);
        CHECKS.due("x", x.found(0), 2);
        CHECKS.due("y", x.found(1), 2);
        CHECKS.due("itself elsewhere", x.found(2), 0);
    }

    /** "the least miss, at the first such cell, row by row" */
    private static void rowByRow() {
        int[][] pairs = {{3, 3, 6, 3}, {6, 3, 3, 4}, {1, 1, 6, 6}, {6, 1, 1, 2}, {5, 2, 1, 6}};
        for (int[] each : pairs) {
            PhotoModels x = new PhotoModels(8, 8, 0);
            for (int i = 0; i < 64; i++) {
                x.pixel(0, i % 8, i / 8, 50);
            }
            lightUp(x, each[0], each[1]);
            lightUp(x, each[2], each[3]);
            CHECKS.due("both windows are alike", x.match(0, 1, 4, 4), 0);
            CHECKS.due("x of the first", x.found(0), each[0]);
            CHECKS.due("y of the first", x.found(1), each[1]);
        }
    }

    private static void lightUp(PhotoModels x, int across, int down) {
        for (int i = 0; i < 9; i++) {
            x.pixel(1, across - 1 + i % 3, down - 1 + i / 3, 50);
        }
    }

    /** "all cells that lie more than one cell from it (across or down)": one is not, two are. */
    private static void moreThanOneCellFrom() {
        // The windows with the dark cell miss by less; the first of them is the one at 1, 1.
        int[][] dark = {{1, 1, 90000}, {0, 0, 90000}, {2, 1, 80000}, {1, 2, 80000}, {2, 0, 80000}, {0, 2, 80000}};
        for (int[] each : dark) {
            PhotoModels x = new PhotoModels(8, 7, 0);
            for (int i = 0; i < 56; i++) {
                x.pixel(1, i % 8, i / 8, 100);
            }
            x.pixel(1, each[0], each[1], 0);
            String call = "dark at " + each[0] + ", " + each[1];
            CHECKS.due(call, x.match(0, 1, 3, 3), 80000);
            CHECKS.due(call + ": x", x.found(0), 1);
            CHECKS.due(call + ": y", x.found(1), 1);
            CHECKS.due(call + ": elsewhere", x.found(2), each[2]);
        }
    }

    /** "NONE without any": with sides of 6 or more there is one wherever the found cell lies. */
    private static void thereIsAlwaysAnotherCell() {
        for (int i = 0; i < 16; i++) {
            PhotoModels x = new PhotoModels(6, 6, 0);
            x.pixel(0, 1 + i % 4, 1 + i / 4, 200);
            x.match(0, 0, 1 + i % 4, 1 + i / 4);
            CHECKS.due("x", x.found(0), 1 + i % 4);
            CHECKS.due("y", x.found(1), 1 + i / 4);
            CHECKS.due("not NONE", x.found(2), 40000);
        }
        CHECKS.due("a miss of 0 is not NONE", PhotoModels.NONE, -1);
    }

    /** "Of the latest match" */
    private static void foundOfTheLatest() {
        PhotoModels x = new PhotoModels(9, 9, 0);
        x.pixel(0, 2, 2, 10);
        x.pixel(1, 6, 5, 10);
        x.match(0, 1, 2, 2);
        CHECKS.due("x of the first match", x.found(0), 6);
        x.match(0, 0, 2, 2);
        CHECKS.due("x of the second", x.found(0), 2);
        CHECKS.due("y of the second", x.found(1), 2);
        x.match(2, 3, 4, 4);
        CHECKS.due("x of the third", x.found(0), 1);
        CHECKS.due("elsewhere of the third", x.found(2), 0);
    }

    private static void countsOfANewObject() {
        PhotoModels x = new PhotoModels(13, 17, 5);
        int[] due = {13, 17, 0, 0, 0};
        for (int what = 0; what < 5; what++) {
            CHECKS.due("count " + what, x.count(what), due[what]);
        }
    }

    private static void countsAtTheirMost() {
        PhotoModels x = new PhotoModels(6, 20, 5);
        for (int i = 1; i <= 12; i++) {
            x.place();
            x.spare(i - 1, true);
            CHECKS.due("places", x.count(2), i);
            CHECKS.due("spares", x.count(4), i);
        }
        for (int i = 1; i <= 10; i++) {
            x.known(0, 11, 1);
            CHECKS.due("lengths", x.count(3), i);
        }
        x.spare(11, false);
        x.spare(11, false);
        CHECKS.due("one spare less", x.count(4), 11);
        CHECKS.due("width", x.count(0), 6);
        CHECKS.due("height", x.count(1), 20);
    }
}
