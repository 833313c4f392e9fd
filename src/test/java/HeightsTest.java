/** Promises 17 to 19: heights, depth, holes. */
public final class HeightsTest {
    private static final Checks CHECKS = new Checks("HeightsTest");

    public static void main(String[] args) {
        shiftedRow();
        penaltyHolds();
        holesSideBySide();
        holesOfAllShapes();
        heightsStay();
        leastAndGreatestPenalty();
        byItself();
        levels();
        joinedAcrossOrDown();
        ofTheLatestHeights();
        noHeightsNoHoles();
        CHECKS.end();
    }

    private static void shiftedRow() {
        PhotoModels x = new PhotoModels(20, 6, 0);
        int[] row = {9, 200, 31, 77, 150, 3, 99, 240, 12, 60, 181, 44, 7, 120, 210, 33, 88, 5, 170, 66};
        for (int depth = 0; depth <= 5; depth++) {
            for (int i = 0; i < 20; i++) {
                x.pixel(1, i, depth, row[i]);
                x.pixel(0, i, depth, i >= depth ? row[i - depth] : row[0]);
            }
        }
        CHECKS.due("all lies on something", x.heights(0, 1, 0), 0);
        for (int depth = 0; depth <= 5; depth++) {
            for (int i = 0; i < 20; i++) {
                CHECKS.due("depth at " + i + " of row " + depth, x.depth(i, depth), Math.min(i, depth));
            }
        }
        CHECKS.due("each row climbs", x.heights(0, 1, 1), 1 + 2 + 3 + 4 + 5);
        CHECKS.due("no holes", x.holes(0), 0);
        CHECKS.due("one great hole", x.holes(-1), 1);
    }

    private static void penaltyHolds() {
        PhotoModels x = new PhotoModels(6, 6, 0);
        x.pixel(0, 3, 0, 50);
        x.pixel(1, 2, 0, 50);
        // Cell 2 has the 50 below it at depth 0, so that a climb ahead of it spares 50 more.
        CHECKS.due("climb", x.heights(0, 1, 100), 100);
        CHECKS.due("level", x.depth(3, 0), 0);
        CHECKS.due("holes", x.holes(0), 1);
        CHECKS.due("holes at 49", x.holes(49), 1);
        CHECKS.due("holes at 50", x.holes(50), 0);
        CHECKS.due("climb", x.heights(0, 1, 99), 99);
        CHECKS.due("high", x.depth(3, 0), 1);
        CHECKS.due("high at the end", x.depth(5, 0), 1);
        CHECKS.due("high ahead of it", x.depth(2, 0), 1);
        CHECKS.due("holes", x.holes(0), 0);
        CHECKS.due("by itself", x.heights(0, 0, 0), 0);
    }

    private static void holesSideBySide() {
        PhotoModels x = new PhotoModels(8, 8, 0);
        int[][] dark = {{0, 0}, {1, 0}, {2, 1}, {2, 2}, {7, 7}, {6, 7}, {7, 0}, {0, 1}, {5, 6}};
        for (int[] each : dark) {
            x.pixel(0, each[0], each[1], 100 + each[0]);
        }
        x.heights(0, 1, 5);
        CHECKS.due("corners do not join", x.holes(99), 5);
        CHECKS.due("above the level", x.holes(100), 5);
        CHECKS.due("higher", x.holes(101), 4);
        CHECKS.due("higher", x.holes(105), 2);
        CHECKS.due("the ends of rows do not join", x.holes(106), 2);
        CHECKS.due("none", x.holes(107), 0);
        CHECKS.due("all", x.holes(Integer.MIN_VALUE), 1);
        CHECKS.due("none", x.holes(Integer.MAX_VALUE), 0);
    }

    private static void holesOfAllShapes() {
        PhotoModels board = new PhotoModels(20, 20, 0);
        PhotoModels way = new PhotoModels(20, 20, 0);
        for (int i = 0; i < 400; i++) {
            int across = i % 20;
            int down = i / 20;
            if ((across + down) % 2 == 0) {
                board.pixel(0, across, down, 9);
            }
            if (down % 2 == 0 || across == (down % 4 == 1 ? 19 : 0)) {
                way.pixel(0, across, down, 9);
            }
        }
        board.heights(0, 1, 0);
        CHECKS.due("a chessboard", board.holes(0), 200);
        way.heights(0, 1, 0);
        CHECKS.due("a long way that turns", way.holes(0), 1);
    }

    private static void heightsStay() {
        PhotoModels x = new PhotoModels(6, 6, 0);
        x.pixel(0, 3, 3, 80);
        x.heights(0, 1, 4);
        x.pixel(0, 3, 3, 0);
        x.pixel(1, 0, 0, 90);
        CHECKS.dueThrow("heights", Checks.ARGUMENT, () -> x.heights(2, 3, 101));
        CHECKS.due("holes as they were", x.holes(79), 1);
        CHECKS.due("holes as they were", x.holes(80), 0);
        x.heights(2, 3, 4);
        CHECKS.due("holes anew", x.holes(0), 0);
        x.pixel(2, 1, 1, 30);
        x.pixel(3, 0, 1, 30);
        x.heights(2, 3, 4);
        x.pixel(3, 0, 1, 0);
        x.match(2, 3, 1, 1);
        CHECKS.due("depth as it was", x.depth(1, 1), 1);
    }

    /** "penalty is not 0 .. 100": the edges themselves are right. */
    private static void leastAndGreatestPenalty() {
        PhotoModels x = new PhotoModels(6, 6, 0);
        x.pixel(0, 5, 5, 255);
        x.pixel(1, 3, 5, 255);
        CHECKS.due("free of cost", x.heights(0, 1, 0), 0);
        CHECKS.due("depth", x.depth(5, 5), 2);
        CHECKS.due("2 up, and cell 3 goes round", x.heights(0, 1, 1), 2);
        CHECKS.due("99 each", x.heights(0, 1, 99), 198);
        CHECKS.due("100 each", x.heights(0, 1, 100), 200);
        CHECKS.due("depth", x.depth(5, 5), 2);
    }

    /** "Heights of a photo by another one (or itself)" */
    private static void byItself() {
        PhotoModels x = new PhotoModels(6, 6, 0);
        for (int photo = 0; photo < 4; photo++) {
            x.pixel(photo, photo, photo, 200);
            for (int penalty : new int[] {0, 50, 100}) {
                CHECKS.due("by itself", x.heights(photo, photo, penalty), 0);
                CHECKS.due("depth", x.depth(photo, photo), 0);
                CHECKS.due("holes", x.holes(0), 0);
            }
        }
    }

    /** "is above a level": any level, and the level itself is not above it. */
    private static void levels() {
        PhotoModels x = new PhotoModels(6, 6, 0);
        x.pixel(0, 0, 0, 255);
        x.pixel(0, 0, 3, 1);
        x.heights(0, 1, 0);
        int[][] due = {{Integer.MIN_VALUE, 1}, {-256, 1}, {-1, 1}, {0, 2}, {1, 1}, {254, 1}, {255, 0}, {256, 0},
            {Integer.MAX_VALUE, 0}};
        for (int[] each : due) {
            CHECKS.due("holes above " + each[0], x.holes(each[0]), each[1]);
        }
    }

    /** "joined side by side (across or down)" */
    private static void joinedAcrossOrDown() {
        int[][][] shapes = {
            {{2, 2}, {3, 2}}, {{2, 2}, {2, 3}}, {{2, 2}, {3, 3}}, {{3, 2}, {2, 3}}, {{2, 2}, {4, 2}}, {{2, 2}, {2, 4}},
            {{5, 1}, {0, 2}}, {{5, 5}, {0, 0}}, {{0, 0}, {0, 5}}, {{0, 0}, {5, 0}},
            {{2, 2}, {3, 3}, {3, 2}}, {{1, 1}, {2, 1}, {3, 1}, {3, 2}, {3, 3}, {2, 3}, {1, 3}, {1, 2}},
            {{0, 2}, {1, 2}, {2, 2}, {2, 1}, {2, 0}}, {{1, 0}, {1, 1}, {0, 1}, {3, 0}, {3, 1}, {2, 1}},
            {{1, 0}, {1, 1}, {0, 1}}, {{0, 0}, {0, 1}, {1, 1}, {2, 1}, {2, 0}}, {{4, 4}, {4, 5}, {5, 5}}};
        int[] due = {1, 1, 2, 2, 2, 2, 2, 2, 2, 2, 1, 1, 1, 1, 1, 1, 1};
        for (int i = 0; i < shapes.length; i++) {
            PhotoModels x = new PhotoModels(6, 6, 0);
            for (int[] cell : shapes[i]) {
                x.pixel(2, cell[0], cell[1], 9);
            }
            CHECKS.due("cost of shape " + i, x.heights(2, 3, 0), 9L * shapes[i].length);
            CHECKS.due("holes of shape " + i, x.holes(0), due[i]);
            CHECKS.due("asked again", x.holes(0), due[i]);
            CHECKS.due("at the level", x.holes(9), 0);
        }
    }

    /** "by the latest heights()", "as it was in the latest heights()" */
    private static void ofTheLatestHeights() {
        PhotoModels x = new PhotoModels(6, 6, 0);
        x.pixel(0, 3, 1, 50);
        x.pixel(1, 1, 1, 50);
        x.heights(0, 1, 0);
        CHECKS.due("depth of the first", x.depth(3, 1), 2);
        CHECKS.due("holes of the first", x.holes(0), 0);
        x.heights(0, 2, 0);
        CHECKS.due("depth of the second", x.depth(3, 1), 0);
        CHECKS.due("holes of the second", x.holes(49), 1);
        x.pixel(0, 3, 1, 0);
        x.pixel(2, 5, 5, 255);
        CHECKS.due("whatever the photos become", x.holes(49), 1);
        CHECKS.due("whatever the photos become", x.holes(50), 0);
        x.heights(2, 3, 0);
        CHECKS.due("holes of the third", x.holes(254), 1);
        x.heights(3, 3, 0);
        CHECKS.due("holes of the fourth", x.holes(0), 0);
    }

    /** "there were none": neither a refused heights() nor a match is one. */
    private static void noHeightsNoHoles() {
        PhotoModels x = new PhotoModels(6, 6, 0);
        x.match(0, 1, 2, 2);
        x.run(20);
        CHECKS.dueThrow("heights", Checks.ARGUMENT, () -> x.heights(0, 1, 101));
        CHECKS.dueThrow("depth", Checks.STATE, () -> x.depth(0, 0));
        CHECKS.dueThrow("holes", Checks.STATE, () -> x.holes(-1));
        x.heights(0, 1, 100);
        CHECKS.due("depth", x.depth(0, 0), 0);
        CHECKS.due("holes", x.holes(-1), 1);
    }
}
