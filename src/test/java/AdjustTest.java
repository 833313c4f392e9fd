import java.math.BigInteger;

/** Promises 10 to 16: run, sum, at, offset, miss, known, scale. */
public final class AdjustTest {
    private static final Checks CHECKS = new Checks("AdjustTest");

    public static void main(String[] args) {
        begun();
        oneRound();
        sparesAreChecks();
        stayTillTheNextRun();
        lengths();
        scales();
        distancesGoDown();
        farDistance();
        lengthBetweenThese();
        leastAndGreatestRounds();
        sumAsAllIsNow();
        missOfAPlace();
        lengthsOfEqualPlaces();
        rootsGoDown();
        fractionsAreLessened();
        greatFraction();
        someDistancesAreNought();
        CHECKS.end();
    }

    private static void begun() {
        PhotoModels x = new PhotoModels(6, 6, 0);
        CHECKS.due("no places", x.run(20), 20);
        x.place();
        x.place();
        x.seen(0, 0, 10, 20);
        x.seen(0, 2, 11, 20);
        x.seen(0, 3, 11, 21);
        CHECKS.due("run(0)", x.run(0), 0);
        CHECKS.due("32000 / 3", x.at(0, 0), 10666);
        CHECKS.due("61000 / 3", x.at(0, 1), 20333);
        CHECKS.due("seen nowhere", x.at(1, 0), 0);
        CHECKS.due("no offset yet", x.offset(3, 1), 0);
        CHECKS.due("sum", x.sum(), 666L * 666 + 2 * 334L * 334 + 2 * 333L * 333 + 667L * 667);
    }

    private static void oneRound() {
        PhotoModels x = new PhotoModels(6, 6, 0);
        x.place();
        x.place();
        x.seen(0, 0, 100, 50);
        x.seen(0, 1, 120, 40);
        x.seen(1, 1, 200, 0);
        x.seen(1, 2, 180, 7);
        CHECKS.due("run(1)", x.run(1), 1);
        // Begun: 110000, 45000 and 190000, 3500.
        CHECKS.due("offset of 0", x.offset(0, 0), 0);
        CHECKS.due("offset of 1 across", x.offset(1, 0), 10000);
        CHECKS.due("offset of 1 down", x.offset(1, 1), -4250);
        CHECKS.due("offset of 2 across", x.offset(2, 0), -10000);
        CHECKS.due("offset of 2 down", x.offset(2, 1), 3500);
        CHECKS.due("offset of 3", x.offset(3, 0), 0);
        CHECKS.due("place 0 across", x.at(0, 0), 105000);
        CHECKS.due("place 0 down", x.at(0, 1), 47125);
        CHECKS.due("place 1 across", x.at(1, 0), 190000);
        CHECKS.due("place 1 down", x.at(1, 1), 3875);
        long first = 2 * (5000L * 5000 + 2875L * 2875);
        long second = 375L * 375 * 2;
        CHECKS.due("miss of 0", x.miss(0), first);
        CHECKS.due("miss of 1", x.miss(1), second);
        CHECKS.due("sum", x.sum(), first + second);
    }

    private static void sparesAreChecks() {
        PhotoModels x = new PhotoModels(6, 6, 0);
        x.place();
        x.place();
        x.seen(0, 0, 100, 100);
        x.seen(0, 1, 110, 100);
        x.seen(1, 0, 200, 200);
        x.seen(1, 1, 310, 200);
        x.spare(1, true);
        CHECKS.due("run(20)", x.run(20), 20);
        CHECKS.due("the spare one has no say", x.offset(1, 0), 10000);
        CHECKS.due("it is adjusted all the same", x.at(1, 0), 250000);
        long off = 50000;
        CHECKS.due("its miss", x.miss(1), 2 * off * off);
        CHECKS.due("not in the sum", x.sum(), x.miss(0));
        x.spare(1, false);
        CHECKS.due("in the sum now", x.sum(), x.miss(0) + x.miss(1));
        x.seen(0, 3, 5, 5);
        x.spare(0, true);
        x.run(1);
        CHECKS.due("only a spare one is seen in it", x.offset(3, 0), 0);
    }

    private static void stayTillTheNextRun() {
        PhotoModels x = new PhotoModels(6, 6, 0);
        x.place();
        x.seen(0, 0, 1, 2);
        x.seen(0, 1, 3, 2);
        x.run(1);
        CHECKS.due("offset", x.offset(1, 0), 1000);
        CHECKS.due("at", x.at(0, 0), 1500);
        x.seen(0, 1, 100, 2);
        x.seen(0, 0, -1, 2);
        x.place();
        x.spare(0, true);
        x.spare(0, false);
        CHECKS.due("offset stays", x.offset(1, 0), 1000);
        CHECKS.due("at stays", x.at(0, 0), 1500);
        CHECKS.due("a new place", x.at(1, 0), 0);
        CHECKS.due("the sum goes by what is seen now", x.sum(), 97500L * 97500);
        x.seen(1, 1, 3, 0);
        CHECKS.due("the new one by its 0, 0", x.miss(1), 2000L * 2000);
        CHECKS.due("begun anew", x.run(0), 0);
        CHECKS.due("offset", x.offset(1, 0), 0);
        CHECKS.due("at", x.at(0, 0), 100000);
        x.seen(0, 1, -1, 0);
        x.run(0);
        CHECKS.due("seen nowhere any more", x.at(0, 0), 0);
    }

    private static void lengths() {
        PhotoModels x = new PhotoModels(6, 6, 0);
        x.place();
        x.place();
        for (int wrong : new int[] {-1, 2, 12, Integer.MIN_VALUE, Integer.MAX_VALUE}) {
            CHECKS.dueThrow("known a", Checks.INDEX, () -> x.known(wrong, 0, 5));
            CHECKS.dueThrow("known b", Checks.INDEX, () -> x.known(0, wrong, 5));
            CHECKS.dueThrow("known both", Checks.INDEX, () -> x.known(wrong, wrong, 0));
        }
        for (int wrong : new int[] {0, -1, 10001, Integer.MIN_VALUE, Integer.MAX_VALUE}) {
            CHECKS.dueThrow("known length", Checks.ARGUMENT, () -> x.known(0, 1, wrong));
        }
        CHECKS.dueThrow("known the same", Checks.ARGUMENT, () -> x.known(1, 1, 5));
        for (int i = 1; i <= 10; i++) {
            CHECKS.due("known", x.known(i % 2, 1 - i % 2, i == 1 ? 1 : 10000), i);
        }
        CHECKS.dueThrow("an eleventh", Checks.STATE, () -> x.known(0, 1, 5));
        CHECKS.dueThrow("argument ahead of state", Checks.ARGUMENT, () -> x.known(0, 0, 5));
        CHECKS.dueThrow("argument ahead of state", Checks.ARGUMENT, () -> x.known(0, 1, 0));
        CHECKS.dueThrow("index ahead of state", Checks.INDEX, () -> x.known(0, 2, 5));
        CHECKS.due("lengths", x.count(3), 10);
        CHECKS.due("all distances are 0, above", x.scale(0), 0);
        CHECKS.due("all distances are 0, below", x.scale(1), 1);
    }

    private static void scales() {
        PhotoModels x = new PhotoModels(6, 6, 0);
        x.place();
        x.place();
        x.place();
        x.seen(0, 0, 100, 100);
        x.seen(1, 0, 103, 104);
        x.seen(2, 0, 100, 100);
        x.known(0, 1, 10000);
        CHECKS.due("not adjusted yet", x.scale(1), 1);
        x.run(0);
        CHECKS.due("10000 / 5000, above", x.scale(0), 2);
        CHECKS.due("10000 / 5000, below", x.scale(1), 1);
        x.known(2, 1, 5);
        // (10000 + 5) * 5000 / (2 * 5000 * 5000)
        CHECKS.due("10005 / 10000, above", x.scale(0), 2001);
        CHECKS.due("10005 / 10000, below", x.scale(1), 2000);
        x.known(2, 0, 77);
        CHECKS.due("a distance of 0 has no say", x.scale(0), 2001);
        x.seen(1, 0, 900, 900);
        CHECKS.due("adjusted places stay", x.scale(0), 2001);
        x.spare(0, true);
        CHECKS.due("spare ones too", x.scale(1), 2000);
    }

    private static void distancesGoDown() {
        PhotoModels x = new PhotoModels(6, 6, 0);
        x.place();
        x.place();
        x.seen(0, 0, 0, 999);
        x.seen(1, 0, 999, 0);
        x.known(0, 1, 1);
        x.run(0);
        // 999000 times the root of 2 is 1412799.348..
        CHECKS.due("above", x.scale(0), 1);
        CHECKS.due("below", x.scale(1), 1412799);
        x.seen(1, 0, 1, 998);
        x.run(0);
        CHECKS.due("below, 1000 times the root of 2", x.scale(1), 1414);
        x.seen(1, 0, 0, 998);
        x.run(0);
        CHECKS.due("a whole root", x.scale(1), 1000);
    }

    /** Offsets drive two spare places apart, each beyond what any photo sees. */
    private static void farDistance() {
        PhotoModels x = new PhotoModels(6, 6, 0);
        for (int i = 0; i < 4; i++) {
            x.place();
        }
        x.seen(0, 0, 0, 0);
        x.seen(0, 1, 999, 999);
        x.seen(1, 0, 999, 999);
        x.seen(1, 2, 0, 0);
        x.seen(2, 1, 0, 0);
        x.seen(3, 2, 999, 999);
        x.spare(2, true);
        x.spare(3, true);
        x.known(2, 3, 1);
        CHECKS.due("run(20)", x.run(20), 20);
        CHECKS.due("below all photos", x.at(2, 0) < -998000, true);
        CHECKS.due("above all photos", x.at(3, 1) > 1997000, true);
        BigInteger across = BigInteger.valueOf(x.at(2, 0) - x.at(3, 0)).pow(2);
        BigInteger down = BigInteger.valueOf(x.at(2, 1) - x.at(3, 1)).pow(2);
        CHECKS.due("far distance", x.scale(1), across.add(down).sqrt().longValueExact());
    }

    private static void lengthBetweenThese() {
        PhotoModels x = new PhotoModels(6, 6, 0);
        for (int i = 0; i < 3; i++) {
            x.place();
            x.seen(i, 0, 10 * i * i, 0);
        }
        x.known(2, 1, 1);
        x.run(0);
        CHECKS.due("from 1 to 2", x.scale(1), 30000);
    }

    /** "rounds is not 0 .. 20": the edges themselves are right, and it begins each time. */
    private static void leastAndGreatestRounds() {
        PhotoModels x = new PhotoModels(6, 6, 0);
        x.place();
        x.seen(0, 0, 0, 0);
        x.seen(0, 1, 32, 64);
        int[] offsets = {0, 16000, 24000, 28000, 30000};
        for (int rounds = 4; rounds >= 0; rounds--) {
            CHECKS.due("run", x.run(rounds), rounds);
            CHECKS.due("across after " + rounds, x.offset(1, 0), offsets[rounds]);
            CHECKS.due("down after " + rounds, x.offset(1, 1), 2 * offsets[rounds]);
            CHECKS.due("place after " + rounds, x.at(0, 0), 16000 - offsets[rounds] / 2);
        }
        CHECKS.due("run(19)", x.run(19), 19);
        CHECKS.due("run(20)", x.run(20), 20);
    }

    /** "The sum, as all is seen and adjusted now." */
    private static void sumAsAllIsNow() {
        PhotoModels x = new PhotoModels(6, 6, 0);
        CHECKS.due("no places", x.sum(), 0);
        x.place();
        CHECKS.due("seen nowhere", x.sum(), 0);
        x.seen(0, 0, 3, 4);
        CHECKS.due("not adjusted yet", x.sum(), 25000000);
        x.run(0);
        CHECKS.due("adjusted", x.sum(), 0);
        x.seen(0, 0, 4, 4);
        CHECKS.due("seen elsewhere", x.sum(), 1000000);
        x.seen(0, 2, 3, 4);
        CHECKS.due("seen in another one", x.sum(), 1000000);
        x.seen(0, 0, -1, 0);
        CHECKS.due("not any more", x.sum(), 0);
        for (int i = 1; i < 12; i++) {
            x.place();
        }
        for (int i = 0; i < 48; i++) {
            x.seen(i / 4, i % 4, 999, 999);
        }
        long each = 999000L * 999000L * 2;
        CHECKS.due("the greatest sum", x.sum(), 44 * each + 4 * (996000L * 996000 + 995000L * 995000));
    }

    /** "What a place (spare or not) has in such a sum." */
    private static void missOfAPlace() {
        PhotoModels x = new PhotoModels(6, 6, 0);
        x.place();
        x.place();
        CHECKS.due("seen nowhere", x.miss(1), 0);
        x.seen(0, 1, 1, 0);
        x.seen(0, 3, 0, 2);
        x.seen(1, 1, 0, 3);
        CHECKS.due("in two photos", x.miss(0), 5000000);
        CHECKS.due("in one", x.miss(1), 9000000);
        x.spare(0, true);
        CHECKS.due("spare", x.miss(0), 5000000);
        CHECKS.due("its sum is without", x.sum(), 9000000);
    }

    /** "A known length between two places: how many there are": the same two may have more. */
    private static void lengthsOfEqualPlaces() {
        PhotoModels x = new PhotoModels(6, 6, 0);
        x.place();
        x.place();
        x.seen(0, 0, 0, 0);
        x.seen(1, 0, 0, 1);
        x.run(0);
        CHECKS.due("first", x.known(0, 1, 1), 1);
        CHECKS.due("1 / 1000, above", x.scale(0), 1);
        CHECKS.due("1 / 1000, below", x.scale(1), 1000);
        CHECKS.due("again, the other way", x.known(1, 0, 10000), 2);
        CHECKS.due("10001 / 2000, above", x.scale(0), 10001);
        CHECKS.due("10001 / 2000, below", x.scale(1), 2000);
        CHECKS.due("once more", x.known(0, 1, 1), 3);
        CHECKS.due("10002 / 3000, above", x.scale(0), 1667);
        CHECKS.due("10002 / 3000, below", x.scale(1), 500);
    }

    /** "the square root of the sum of both squares, rounded down" */
    private static void rootsGoDown() {
        int[][] roots = {{0, 1, 1000}, {1, 0, 1000}, {1, 1, 1414}, {3, 4, 5000}, {1, 2, 2236}, {2, 2, 2828},
            {500, 1, 500000}, {500, 0, 500000}, {999, 999, 1412799}, {999, 0, 999000}, {0, 999, 999000}};
        for (int[] each : roots) {
            PhotoModels x = new PhotoModels(6, 6, 0);
            x.place();
            x.place();
            x.seen(0, 1, each[0], 0);
            x.seen(1, 1, 0, each[1]);
            x.run(0);
            x.known(0, 1, 1);
            CHECKS.due("above", x.scale(0), 1);
            CHECKS.due("root for " + each[0] + ", " + each[1], x.scale(1), each[2]);
        }
    }

    /** "the fraction that cannot be lessened" */
    private static void fractionsAreLessened() {
        int[][] fractions = {{1, 1, 1000}, {10, 1, 100}, {1000, 1, 1}, {999, 999, 1000}, {1024, 128, 125},
            {10000, 10, 1}, {6000, 6, 1}, {1001, 1001, 1000}, {2500, 5, 2}};
        for (int[] each : fractions) {
            PhotoModels x = new PhotoModels(6, 6, 0);
            x.place();
            x.place();
            x.seen(0, 0, 1, 0);
            x.run(0);
            x.known(0, 1, each[0]);
            CHECKS.due(each[0] + " / 1000, above", x.scale(0), each[1]);
            CHECKS.due(each[0] + " / 1000, below", x.scale(1), each[2]);
        }
    }

    private static void greatFraction() {
        PhotoModels x = new PhotoModels(6, 6, 0);
        x.place();
        x.place();
        x.place();
        x.seen(0, 0, 0, 0);
        x.seen(1, 0, 999, 999);
        x.seen(2, 0, 999, 998);
        x.run(0);
        for (int i = 0; i < 10; i++) {
            x.known(0, i == 0 ? 2 : 1, 10000);
        }
        // Distances are 1412092 once and 1412799 nine times.
        BigInteger one = BigInteger.valueOf(1412092);
        BigInteger nine = BigInteger.valueOf(1412799);
        BigInteger above = nine.multiply(BigInteger.valueOf(9)).add(one).multiply(BigInteger.valueOf(10000));
        BigInteger below = nine.pow(2).multiply(BigInteger.valueOf(9)).add(one.pow(2));
        BigInteger divisor = above.gcd(below);
        CHECKS.due("above", x.scale(0), above.divide(divisor).longValueExact());
        CHECKS.due("below", x.scale(1), below.divide(divisor).longValueExact());
    }

    /** "0 / 1 if all distances are 0": of no lengths, of one, of ten; not if one is above 0. */
    private static void someDistancesAreNought() {
        PhotoModels x = new PhotoModels(6, 6, 0);
        CHECKS.due("no lengths, above", x.scale(0), 0);
        CHECKS.due("no lengths, below", x.scale(1), 1);
        x.place();
        x.place();
        x.place();
        x.seen(0, 0, 5, 5);
        x.seen(1, 3, 5, 5);
        x.seen(2, 0, 5, 7);
        x.run(0);
        for (int i = 0; i < 9; i++) {
            x.known(i % 2, 1 - i % 2, 10000);
            CHECKS.due("at the same, above", x.scale(0), 0);
            CHECKS.due("at the same, below", x.scale(1), 1);
        }
        x.known(2, 1, 3);
        CHECKS.due("3 / 2000, above", x.scale(0), 3);
        CHECKS.due("3 / 2000, below", x.scale(1), 2000);
    }
}
