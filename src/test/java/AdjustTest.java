import java.math.BigInteger;

/** Promises 10 to 16: run, sum, at, offset, miss, known, scale. */
public final class AdjustTest {
    private static final Checks CHECKS = new Checks("AdjustTest");

    public static void main(String[] args) {
        begun();
        oneRound();
        meansGoDown();
        roundThatIsUndone();
        sparesAreChecks();
        stayTillTheNextRun();
        wrongRuns();
        wrongAsks();
        lengths();
        scales();
        distancesGoDown();
        farDistance();
        lengthBetweenThese();
        CHECKS.end();
    }

    private static void begun() {
        PhotoModels x = new PhotoModels(6, 6, 0);
        CHECKS.due("no places", x.run(20), 20);
        x.place();
        x.place();
        x.seen(0, 0, 10, 20);
        x.seen(0, 2, 11, 20);
        x.seen(0, 3, 11, 21);
        CHECKS.due("run(0)", x.run(0), 0);
        CHECKS.due("32000 / 3", x.at(0, 0), 10666);
        CHECKS.due("61000 / 3", x.at(0, 1), 20333);
        CHECKS.due("seen nowhere", x.at(1, 0), 0);
        CHECKS.due("no offset yet", x.offset(3, 1), 0);
        CHECKS.due("sum", x.sum(), 666L * 666 + 2 * 334L * 334 + 2 * 333L * 333 + 667L * 667);
    }

    private static void oneRound() {
        PhotoModels x = new PhotoModels(6, 6, 0);
        x.place();
        x.place();
        x.seen(0, 0, 100, 50);
        x.seen(0, 1, 120, 40);
        x.seen(1, 1, 200, 0);
        x.seen(1, 2, 180, 7);
        CHECKS.due("run(1)", x.run(1), 1);
        // Begun: 110000, 45000 and 190000, 3500.
        CHECKS.due("offset of 0", x.offset(0, 0), 0);
        CHECKS.due("offset of 1 across", x.offset(1, 0), 10000);
        CHECKS.due("offset of 1 down", x.offset(1, 1), -4250);
        CHECKS.due("offset of 2 across", x.offset(2, 0), -10000);
        CHECKS.due("offset of 2 down", x.offset(2, 1), 3500);
        CHECKS.due("offset of 3", x.offset(3, 0), 0);
        CHECKS.due("place 0 across", x.at(0, 0), 105000);
        CHECKS.due("place 0 down", x.at(0, 1), 47125);
        CHECKS.due("place 1 across", x.at(1, 0), 190000);
        CHECKS.due("place 1 down", x.at(1, 1), 3875);
        long first = 2 * (5000L * 5000 + 2875L * 2875);
        long second = 375L * 375 * 2;
        CHECKS.due("miss of 0", x.miss(0), first);
        CHECKS.due("miss of 1", x.miss(1), second);
        CHECKS.due("sum", x.sum(), first + second);
    }

    private static void meansGoDown() {
        PhotoModels x = new PhotoModels(6, 6, 0);
        for (int i = 0; i < 3; i++) {
            x.place();
            x.seen(i, 1, 0, 0);
            x.seen(i, 0, i, i == 0 ? 1 : 0);
        }
        CHECKS.due("run(1)", x.run(1), 1);
        // Begun: across 0, 500, 1000; down 500, 0, 0: the offsets are the means of what is below 0.
        CHECKS.due("- 1500 / 3", x.offset(1, 0), -500);
        CHECKS.due("- 500 / 3, down", x.offset(1, 1), -167);
        CHECKS.due("(1000 + 167) / 2", x.at(0, 1), 583);
        CHECKS.due("167 / 2", x.at(1, 1), 83);
    }

    private static void roundThatIsUndone() {
        PhotoModels x = new PhotoModels(6, 6, 0);
        int[][] seenAcross = {{0, 3, 3}, {1, 2, 3}, {3, 3, -1}};
        for (int place = 0; place < 3; place++) {
            x.place();
            for (int i = 0; i < 3; i++) {
                x.seen(place, i + 1, seenAcross[place][i], 0);
            }
        }
        CHECKS.due("run(4)", x.run(4), 4);
        CHECKS.due("sum", x.sum(), 2333334);
        // A fifth round would move photo 2 to 291 alone, and raise the sum by 1.
        CHECKS.due("run(20)", x.run(20), 4);
        CHECKS.due("sum", x.sum(), 2333334);
        CHECKS.due("offset of 1", x.offset(1, 0), -1042);
        CHECKS.due("offset of 2", x.offset(2, 0), 292);
        CHECKS.due("offset of 3", x.offset(3, 0), 1125);
        CHECKS.due("place 0", x.at(0, 0), 1875);
        CHECKS.due("place 1", x.at(1, 0), 1875);
        CHECKS.due("place 2", x.at(2, 0), 3375);
    }

    private static void sparesAreChecks() {
        PhotoModels x = new PhotoModels(6, 6, 0);
        x.place();
        x.place();
        x.seen(0, 0, 100, 100);
        x.seen(0, 1, 110, 100);
        x.seen(1, 0, 200, 200);
        x.seen(1, 1, 310, 200);
        x.spare(1, true);
        CHECKS.due("run(20)", x.run(20), 20);
        CHECKS.due("the spare one has no say", x.offset(1, 0), 10000);
        CHECKS.due("it is adjusted all the same", x.at(1, 0), 250000);
        long off = 50000;
        CHECKS.due("its miss", x.miss(1), 2 * off * off);
        CHECKS.due("not in the sum", x.sum(), x.miss(0));
        x.spare(1, false);
        CHECKS.due("in the sum now", x.sum(), x.miss(0) + x.miss(1));
        x.seen(0, 3, 5, 5);
        x.spare(0, true);
        x.run(1);
        CHECKS.due("only a spare one is seen in it", x.offset(3, 0), 0);
    }

    private static void stayTillTheNextRun() {
        PhotoModels x = new PhotoModels(6, 6, 0);
        x.place();
        x.seen(0, 0, 1, 2);
        x.seen(0, 1, 3, 2);
        x.run(1);
        CHECKS.due("offset", x.offset(1, 0), 1000);
        CHECKS.due("at", x.at(0, 0), 1500);
        x.seen(0, 1, 100, 2);
        x.seen(0, 0, -1, 2);
        x.place();
        x.spare(0, true);
        x.spare(0, false);
        CHECKS.due("offset stays", x.offset(1, 0), 1000);
        CHECKS.due("at stays", x.at(0, 0), 1500);
        CHECKS.due("a new place", x.at(1, 0), 0);
        CHECKS.due("the sum goes by what is seen now", x.sum(), 97500L * 97500);
        x.seen(1, 1, 3, 0);
        CHECKS.due("the new one by its 0, 0", x.miss(1), 2000L * 2000);
        CHECKS.due("begun anew", x.run(0), 0);
        CHECKS.due("offset", x.offset(1, 0), 0);
        CHECKS.due("at", x.at(0, 0), 100000);
        x.seen(0, 1, -1, 0);
        x.run(0);
        CHECKS.due("seen nowhere any more", x.at(0, 0), 0);
    }

    private static void wrongRuns() {
        PhotoModels x = new PhotoModels(6, 6, 0);
        x.place();
        x.seen(0, 1, 8, 9);
        for (int rounds : new int[] {-1, 21, Integer.MIN_VALUE, Integer.MAX_VALUE}) {
            CHECKS.dueThrow("run", Checks.ARGUMENT, () -> x.run(rounds));
        }
        CHECKS.due("not begun", x.at(0, 0), 0);
        CHECKS.due("run(20)", x.run(20), 20);
    }

    private static void wrongAsks() {
        PhotoModels x = new PhotoModels(6, 6, 0);
        x.place();
        for (int wrong : new int[] {-1, 12, Integer.MIN_VALUE, Integer.MAX_VALUE}) {
            CHECKS.dueThrow("at place", Checks.INDEX, () -> x.at(wrong, 0));
            CHECKS.dueThrow("at axis", Checks.INDEX, () -> x.at(0, wrong));
            CHECKS.dueThrow("offset photo", Checks.INDEX, () -> x.offset(wrong, 0));
            CHECKS.dueThrow("offset axis", Checks.INDEX, () -> x.offset(0, wrong));
            CHECKS.dueThrow("miss", Checks.INDEX, () -> x.miss(wrong));
            CHECKS.dueThrow("scale", Checks.INDEX, () -> x.scale(wrong));
        }
        CHECKS.dueThrow("at(1, 0)", Checks.INDEX, () -> x.at(1, 0));
        CHECKS.dueThrow("at(0, 2)", Checks.INDEX, () -> x.at(0, 2));
        CHECKS.dueThrow("offset(4, 0)", Checks.INDEX, () -> x.offset(4, 0));
        CHECKS.dueThrow("offset(0, 2)", Checks.INDEX, () -> x.offset(0, 2));
        CHECKS.dueThrow("miss(1)", Checks.INDEX, () -> x.miss(1));
        CHECKS.dueThrow("scale(2)", Checks.INDEX, () -> x.scale(2));
    }

    private static void lengths() {
        PhotoModels x = new PhotoModels(6, 6, 0);
        x.place();
        x.place();
        for (int wrong : new int[] {-1, 2, 12, Integer.MIN_VALUE, Integer.MAX_VALUE}) {
            CHECKS.dueThrow("known a", Checks.INDEX, () -> x.known(wrong, 0, 5));
            CHECKS.dueThrow("known b", Checks.INDEX, () -> x.known(0, wrong, 5));
            CHECKS.dueThrow("known both", Checks.INDEX, () -> x.known(wrong, wrong, 0));
        }
        for (int wrong : new int[] {0, -1, 10001, Integer.MIN_VALUE, Integer.MAX_VALUE}) {
            CHECKS.dueThrow("known length", Checks.ARGUMENT, () -> x.known(0, 1, wrong));
        }
        CHECKS.dueThrow("known the same", Checks.ARGUMENT, () -> x.known(1, 1, 5));
        for (int i = 1; i <= 10; i++) {
            CHECKS.due("known", x.known(i % 2, 1 - i % 2, i == 1 ? 1 : 10000), i);
        }
        CHECKS.dueThrow("an eleventh", Checks.STATE, () -> x.known(0, 1, 5));
        CHECKS.dueThrow("argument ahead of state", Checks.ARGUMENT, () -> x.known(0, 0, 5));
        CHECKS.dueThrow("argument ahead of state", Checks.ARGUMENT, () -> x.known(0, 1, 0));
        CHECKS.dueThrow("index ahead of state", Checks.INDEX, () -> x.known(0, 2, 5));
        CHECKS.due("lengths", x.count(3), 10);
        CHECKS.due("all distances are 0, above", x.scale(0), 0);
        CHECKS.due("all distances are 0, below", x.scale(1), 1);
    }

    private static void scales() {
        PhotoModels x = new PhotoModels(6, 6, 0);
        x.place();
        x.place();
        x.place();
        x.seen(0, 0, 100, 100);
        x.seen(1, 0, 103, 104);
        x.seen(2, 0, 100, 100);
        x.known(0, 1, 10000);
        CHECKS.due("not adjusted yet", x.scale(1), 1);
        x.run(0);
        CHECKS.due("10000 / 5000, above", x.scale(0), 2);
        CHECKS.due("10000 / 5000, below", x.scale(1), 1);
        x.known(2, 1, 5);
        // (10000 + 5) * 5000 / (2 * 5000 * 5000)
        CHECKS.due("10005 / 10000, above", x.scale(0), 2001);
        CHECKS.due("10005 / 10000, below", x.scale(1), 2000);
        x.known(2, 0, 77);
        CHECKS.due("a distance of 0 has no say", x.scale(0), 2001);
        x.seen(1, 0, 900, 900);
        CHECKS.due("adjusted places stay", x.scale(0), 2001);
        x.spare(0, true);
        CHECKS.due("spare ones too", x.scale(1), 2000);
    }

    private static void distancesGoDown() {
        PhotoModels x = new PhotoModels(6, 6, 0);
        x.place();
        x.place();
        x.seen(0, 0, 0, 999);
        x.seen(1, 0, 999, 0);
        x.known(0, 1, 1);
        x.run(0);
        // 999000 times the root of 2 is 1412799.348..
        CHECKS.due("above", x.scale(0), 1);
        CHECKS.due("below", x.scale(1), 1412799);
        x.seen(1, 0, 1, 998);
        x.run(0);
        CHECKS.due("below, 1000 times the root of 2", x.scale(1), 1414);
        x.seen(1, 0, 0, 998);
        x.run(0);
        CHECKS.due("a whole root", x.scale(1), 1000);
    }

    /** Offsets drive two spare places apart, each beyond what any photo sees. */
    private static void farDistance() {
        PhotoModels x = new PhotoModels(6, 6, 0);
        for (int i = 0; i < 4; i++) {
            x.place();
        }
        x.seen(0, 0, 0, 0);
        x.seen(0, 1, 999, 999);
        x.seen(1, 0, 999, 999);
        x.seen(1, 2, 0, 0);
        x.seen(2, 1, 0, 0);
        x.seen(3, 2, 999, 999);
        x.spare(2, true);
        x.spare(3, true);
        x.known(2, 3, 1);
        CHECKS.due("run(20)", x.run(20), 20);
        CHECKS.due("below all photos", x.at(2, 0) < -998000, true);
        CHECKS.due("above all photos", x.at(3, 1) > 1997000, true);
        BigInteger across = BigInteger.valueOf(x.at(2, 0) - x.at(3, 0)).pow(2);
        BigInteger down = BigInteger.valueOf(x.at(2, 1) - x.at(3, 1)).pow(2);
        CHECKS.due("far distance", x.scale(1), across.add(down).sqrt().longValueExact());
    }

    private static void lengthBetweenThese() {
        PhotoModels x = new PhotoModels(6, 6, 0);
        for (int i = 0; i < 3; i++) {
            x.place();
            x.seen(i, 0, 10 * i * i, 0);
        }
        x.known(2, 1, 1);
        x.run(0);
        CHECKS.due("from 1 to 2", x.scale(1), 30000);
    }
}
