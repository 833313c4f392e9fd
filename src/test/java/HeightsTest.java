/** Promises 17 to 19: heights, depth, holes. */
public final class HeightsTest {
    private static final Checks CHECKS = new Checks("HeightsTest");

    public static void main(String[] args) {
        shiftedRow();
        lesserDepthInTheLastCell();
        penaltyHolds();
        holesSideBySide();
        holesOfAllShapes();
        heightsStay();
        wrongHeights();
        CHECKS.end();
    }

    private static void shiftedRow() {
        PhotoModels x = new PhotoModels(20, 6, 0);
        int[] row = {9, 200, 31, 77, 150, 3, 99, 240, 12, 60, 181, 44, 7, 120, 210, 33, 88, 5, 170, 66};
        for (int depth = 0; depth <= 5; depth++) {
            for (int i = 0; i < 20; i++) {
                x.pixel(1, i, depth, row[i]);
                x.pixel(0, i, depth, i >= depth ? row[i - depth] : row[0]);
            }
        }
        CHECKS.due("all lies on something", x.heights(0, 1, 0), 0);
        for (int depth = 0; depth <= 5; depth++) {
            for (int i = 0; i < 20; i++) {
                CHECKS.due("depth at " + i + " of row " + depth, x.depth(i, depth), Math.min(i, depth));
            }
        }
        CHECKS.due("each row climbs", x.heights(0, 1, 1), 1 + 2 + 3 + 4 + 5);
        CHECKS.due("no holes", x.holes(0), 0);
        CHECKS.due("one great hole", x.holes(-1), 1);
    }

    private static void lesserDepthInTheLastCell() {
        PhotoModels x = new PhotoModels(6, 6, 0);
        CHECKS.due("nothing to tell", x.heights(0, 1, 0), 0);
        for (int i = 0; i < 36; i++) {
            CHECKS.due("depth 0 of equal ones", x.depth(i % 6, i / 6), 0);
        }
        // Cell 3 must lie on cell 2, and cell 2 must not: the climb costs the same at 1 or 2, and a
        // way down behind it costs more.
        x.pixel(0, 3, 2, 250);
        x.pixel(1, 2, 2, 250);
        CHECKS.due("one climb", x.heights(0, 1, 7), 7);
        int[] due = {0, 0, 1, 1, 1, 1};
        for (int i = 0; i < 6; i++) {
            CHECKS.due("late climb, cell " + i, x.depth(i, 2), due[i]);
        }
        x.pixel(0, 5, 2, 250);
        x.pixel(1, 5, 2, 250);
        // Now cell 5 lies on cell 5, and the way down costs the same at 4 or 5.
        CHECKS.due("up and down", x.heights(0, 1, 7), 14);
        int[] down = {0, 0, 1, 1, 0, 0};
        for (int i = 0; i < 6; i++) {
            CHECKS.due("early way down, cell " + i, x.depth(i, 2), down[i]);
        }
    }

    private static void penaltyHolds() {
        PhotoModels x = new PhotoModels(6, 6, 0);
        x.pixel(0, 3, 0, 50);
        x.pixel(1, 2, 0, 50);
        // Cell 2 has the 50 below it at depth 0, so that a climb ahead of it spares 50 more.
        CHECKS.due("climb", x.heights(0, 1, 100), 100);
        CHECKS.due("level", x.depth(3, 0), 0);
        CHECKS.due("holes", x.holes(0), 1);
        CHECKS.due("holes at 49", x.holes(49), 1);
        CHECKS.due("holes at 50", x.holes(50), 0);
        CHECKS.due("climb", x.heights(0, 1, 99), 99);
        CHECKS.due("high", x.depth(3, 0), 1);
        CHECKS.due("high at the end", x.depth(5, 0), 1);
        CHECKS.due("high ahead of it", x.depth(2, 0), 1);
        CHECKS.due("holes", x.holes(0), 0);
        CHECKS.due("by itself", x.heights(0, 0, 0), 0);
    }

    private static void holesSideBySide() {
        PhotoModels x = new PhotoModels(8, 8, 0);
        int[][] dark = {{0, 0}, {1, 0}, {2, 1}, {2, 2}, {7, 7}, {6, 7}, {7, 0}, {0, 1}, {5, 6}};
        for (int[] each : dark) {
            x.pixel(0, each[0], each[1], 100 + each[0]);
        }
        x.heights(0, 1, 5);
        CHECKS.due("corners do not join", x.holes(99), 5);
        CHECKS.due("above the level", x.holes(100), 5);
        CHECKS.due("higher", x.holes(101), 4);
        CHECKS.due("higher", x.holes(105), 2);
        CHECKS.due("the ends of rows do not join", x.holes(106), 2);
        CHECKS.due("none", x.holes(107), 0);
        CHECKS.due("all", x.holes(Integer.MIN_VALUE), 1);
        CHECKS.due("none", x.holes(Integer.MAX_VALUE), 0);
    }

    private static void holesOfAllShapes() {
        PhotoModels x = new PhotoModels(20, 20, 0);
        int dark = 0;
        for (int y = 0; y < 20; y++) {
            for (int i = 0; i < 20; i++) {
                if ((i + y) % 2 == 0) {
                    x.pixel(0, i, y, 9);
                    dark++;
                }
            }
        }
        x.heights(0, 1, 0);
        CHECKS.due("a chessboard", x.holes(0), dark);
        for (int y = 0; y < 20; y++) {
            for (int i = 0; i < 20; i++) {
                boolean open = y % 2 == 0 || i == (y % 4 == 1 ? 19 : 0);
                x.pixel(0, i, y, open ? 9 : 0);
            }
        }
        x.heights(0, 1, 0);
        CHECKS.due("a long way that turns", x.holes(0), 1);
    }

    private static void heightsStay() {
        PhotoModels x = new PhotoModels(6, 6, 0);
        x.pixel(0, 3, 3, 80);
        x.heights(0, 1, 4);
        x.pixel(0, 3, 3, 0);
        x.pixel(1, 0, 0, 90);
        CHECKS.dueThrow("heights", Checks.ARGUMENT, () -> x.heights(2, 3, 101));
        CHECKS.due("holes as they were", x.holes(79), 1);
        CHECKS.due("holes as they were", x.holes(80), 0);
        x.heights(2, 3, 4);
        CHECKS.due("holes anew", x.holes(0), 0);
        x.pixel(2, 1, 1, 30);
        x.pixel(3, 0, 1, 30);
        x.heights(2, 3, 4);
        x.pixel(3, 0, 1, 0);
        x.match(2, 3, 1, 1);
        CHECKS.due("depth as it was", x.depth(1, 1), 1);
    }

    private static void wrongHeights() {
        PhotoModels x = new PhotoModels(6, 9, 0);
        for (int photo : new int[] {-1, 4, Integer.MIN_VALUE, Integer.MAX_VALUE}) {
            CHECKS.dueThrow("a", Checks.INDEX, () -> x.heights(photo, 0, 1));
            CHECKS.dueThrow("b", Checks.INDEX, () -> x.heights(0, photo, 1));
            CHECKS.dueThrow("b and penalty", Checks.INDEX, () -> x.heights(0, photo, -1));
        }
        for (int penalty : new int[] {-1, 101, Integer.MIN_VALUE, Integer.MAX_VALUE}) {
            CHECKS.dueThrow("penalty", Checks.ARGUMENT, () -> x.heights(0, 1, penalty));
        }
        CHECKS.dueThrow("no heights", Checks.STATE, () -> x.depth(5, 8));
        CHECKS.dueThrow("no heights", Checks.STATE, () -> x.holes(0));
        int[][] outside = {{-1, 0}, {6, 0}, {0, -1}, {0, 9}, {Integer.MAX_VALUE, 0}, {0, Integer.MIN_VALUE}};
        for (int[] each : outside) {
            CHECKS.dueThrow("index ahead of state", Checks.INDEX, () -> x.depth(each[0], each[1]));
        }
        x.heights(0, 1, 100);
        CHECKS.due("the last cell", x.depth(5, 8), 0);
        for (int[] each : outside) {
            CHECKS.dueThrow("outside", Checks.INDEX, () -> x.depth(each[0], each[1]));
        }
    }
}
