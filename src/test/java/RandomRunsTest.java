import java.util.Random;

/** All promises: runs of drawn calls, right and wrong ones, held against the plain model. */
public final class RandomRunsTest {
    private static final Checks CHECKS = new Checks("RandomRunsTest");
    private static final int[] ODD = {Integer.MIN_VALUE, Integer.MIN_VALUE + 1, -65537, -2, -1, 0, 1, 2, 3, 4, 5, 6,
        11, 12, 19, 20, 21, 100, 101, 255, 256, 999, 1000, 10000, 10001, 65536, 65537,
        Integer.MAX_VALUE - 1, Integer.MAX_VALUE};
    /** What later calls answer is free. */
    private static final int MOST_CALLS = 512;

    private final Random random;
    private final PhotoModels program;
    private final PlainModel plain;
    private final int width;
    private final int height;
    private final int shades;
    private final int oddEvery;
    private int calls;
    private int stoppedRuns;

    private RandomRunsTest(long run) {
        random = new Random(run);
        int w = run % 5 == 0 ? odd() : 5 + random.nextInt(run % 3 == 0 ? 17 : 4);
        int h = run % 5 == 0 ? odd() : 5 + random.nextInt(17);
        int seed = run % 7 == 0 ? odd() : random.nextInt(65537);
        program = new PhotoModels(w, h, seed);
        plain = new PlainModel(w, h, seed);
        width = plain.count(0);
        height = plain.count(1);
        shades = run % 2 == 0 ? 3 : 256;
        oddEvery = run % 4 == 3 ? 3 : 40;
    }

    public static void main(String[] args) {
        int stopped = 0;
        for (long run = 1; run <= 1500; run++) {
            RandomRunsTest one = new RandomRunsTest(run);
            if (run % 3 == 1) {
                one.paint();
            } else if (run % 6 == 5) {
                one.lookAround(run);
            }
            int kinds = run % 6 == 5 ? 14 : 21;
            while (one.calls < MOST_CALLS) {
                one.call(run, one.random.nextInt(kinds));
            }
            stopped += one.stoppedRuns;
        }
        CHECKS.due("some runs met a round that was not kept", stopped > 0, true);
        CHECKS.end();
    }

    /** Textured rows of two photos, as drawn calls alone would leave most cells at 0. */
    private void paint() {
        for (int i = 0; i < 240 && i < 2 * width * height; i++) {
            int photo = i % 2;
            int cell = i / 2;
            int v = random.nextInt(shades);
            program.pixel(photo, cell % width, cell / width, v);
            plain.pixel(photo, cell % width, cell / width, v);
            calls++;
        }
    }

    /** Places seen close together, mostly not in photo 0: rounding may raise such a sum. */
    private void lookAround(long run) {
        int number = 3 + random.nextInt(10);
        for (int i = 0; i < number; i++) {
            int place = i;
            same(run, "place", program::place, plain::place);
            for (int j = random.nextInt(4) == 0 ? 0 : 1; j < 4; j++) {
                int photo = j;
                int x = random.nextInt(5) - 1;
                int y = random.nextInt(4);
                same(run, "seen", () -> program.seen(place, photo, x, y), () -> plain.seen(place, photo, x, y));
            }
        }
        runBoth(run, 20);
    }

    private int odd() {
        return ODD[random.nextInt(ODD.length)];
    }

    private int upTo(int bound) {
        return random.nextInt(oddEvery) == 0 ? odd() : random.nextInt(bound);
    }

    private int someplace() {
        return upTo(Math.max(1, plain.count(2)));
    }

    private void call(long run, int kind) {
        int a = upTo(4);
        int b = upTo(4);
        int x = upTo(width);
        int y = upTo(height);
        int p = someplace();
        int q = someplace();
        int axis = upTo(2);
        switch (kind) {
            case 0, 1 -> {
                int v = upTo(shades);
                same(run, "pixel", () -> program.pixel(a, x, y, v), () -> plain.pixel(a, x, y, v));
            }
            case 2 -> {
                same(run, "match", () -> program.match(a, b, x, y), () -> plain.match(a, b, x, y));
                foundAll(run);
            }
            case 3 -> same(run, "place", program::place, plain::place);
            case 4, 5, 6, 7 -> {
                int u = random.nextInt(8) == 0 ? -1 : upTo(run % 2 == 0 ? 3 : 1000);
                int v = upTo(run % 2 == 0 ? 3 : 1000);
                same(run, "seen", () -> program.seen(p, a, u, v), () -> plain.seen(p, a, u, v));
            }
            case 8 -> {
                int tries = 1 + upTo(20);
                int tolerance = upTo(run % 2 == 0 ? 2 : 101);
                same(run, "relative", () -> program.relative(a, b, tries, tolerance),
                        () -> plain.relative(a, b, tries, tolerance));
                same(run, "shift", () -> program.shift(axis), () -> plain.shift(axis));
            }
            case 9 -> same(run, "shift", () -> program.shift(axis), () -> plain.shift(axis));
            case 10 -> {
                boolean on = random.nextInt(3) == 0;
                same(run, "spare", () -> program.spare(p, on), () -> plain.spare(p, on));
            }
            case 11 -> runBoth(run, upTo(21));
            case 12 -> same(run, "sum", program::sum, plain::sum);
            case 13 -> same(run, "at", () -> program.at(p, axis), () -> plain.at(p, axis));
            case 14 -> same(run, "offset", () -> program.offset(a, axis), () -> plain.offset(a, axis));
            case 15 -> same(run, "miss", () -> program.miss(p), () -> plain.miss(p));
            case 16 -> {
                int length = 1 + upTo(10000);
                same(run, "known", () -> program.known(p, q, length), () -> plain.known(p, q, length));
            }
            case 17 -> same(run, "scale", () -> program.scale(axis), () -> plain.scale(axis));
            case 18 -> heightsBoth(run, a, b);
            case 19 -> {
                same(run, "depth", () -> program.depth(x, y), () -> plain.depth(x, y));
                int level = upTo(256);
                same(run, "holes", () -> program.holes(level), () -> plain.holes(level));
            }
            default -> {
                int what = upTo(6);
                same(run, "count", () -> program.count(what), () -> plain.count(what));
                same(run, "found", () -> program.found(what), () -> plain.found(what));
            }
        }
    }

    private void foundAll(long run) {
        for (int i = 0; i < 3; i++) {
            int what = i;
            same(run, "found", () -> program.found(what), () -> plain.found(what));
        }
    }

    private void runBoth(long run, int rounds) {
        Object kept = same(run, "run", () -> program.run(rounds), () -> plain.run(rounds));
        stoppedRuns += kept instanceof Integer number && number < rounds ? 1 : 0;
        same(run, "sum", program::sum, plain::sum);
        for (int i = 0; i < plain.count(2) * 2; i++) {
            int place = i / 2;
            int axis = i % 2;
            same(run, "at", () -> program.at(place, axis), () -> plain.at(place, axis));
            same(run, "miss", () -> program.miss(place), () -> plain.miss(place));
        }
        for (int i = 0; i < 8; i++) {
            int photo = i / 2;
            int axis = i % 2;
            same(run, "offset", () -> program.offset(photo, axis), () -> plain.offset(photo, axis));
        }
        same(run, "scale", () -> program.scale(0), () -> plain.scale(0));
        same(run, "scale", () -> program.scale(1), () -> plain.scale(1));
    }

    private void heightsBoth(long run, int a, int b) {
        int penalty = upTo(random.nextBoolean() ? 3 : 101);
        same(run, "heights", () -> program.heights(a, b, penalty), () -> plain.heights(a, b, penalty));
        for (int i = 0; i < width * height; i++) {
            int x = i % width;
            int y = i / width;
            same(run, "depth", () -> program.depth(x, y), () -> plain.depth(x, y));
        }
        for (int level = -1; level < 4; level++) {
            int above = level;
            same(run, "holes", () -> program.holes(above), () -> plain.holes(above));
        }
    }

    private Object same(long run, String call, Checks.Call got, Checks.Call want) {
        if (calls == MOST_CALLS) {
            return null;
        }
        calls++;
        Object due = outcome(want);
        Object answer = outcome(got);
        CHECKS.due("run " + run + ": " + call + " " + answer + ", due is " + due + ": same", answer.equals(due), true);
        return due;
    }

    private static Object outcome(Checks.Call call) {
        try {
            return call.answer();
        } catch (RuntimeException e) {
            return e.getClass();
        }
    }
}
