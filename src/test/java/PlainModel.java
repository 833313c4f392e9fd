import java.math.BigInteger;
import java.util.ArrayList;
import java.util.HashMap;
import java.util.List;
import java.util.Map;

/** The document's promises once more, as plainly as can be, to hold the program's answers against. */
final class PlainModel {
    private final int width;
    private final int height;
    private final int seed;
    private final int[][][] cells;
    private int[] match;
    private final List<Map<Integer, int[]>> seen = new ArrayList<>();
    private final List<Boolean> spare = new ArrayList<>();
    private final List<int[]> at = new ArrayList<>();
    private int[][] offsets = new int[4][2];
    private int[] shift;
    private final List<int[]> lengths = new ArrayList<>();
    private int[][] depths;
    private int[][] differences;

    PlainModel(int width, int height, int seed) {
        this.width = width < 6 ? 6 : width > 20 ? 20 : width;
        this.height = height < 6 ? 6 : height > 20 ? 20 : height;
        this.seed = seed < 0 ? 0 : seed > 65536 ? 65536 : seed;
        cells = new int[4][this.height][this.width];
    }

    private static void index(boolean ok) {
        if (!ok) {
            throw new IndexOutOfBoundsException();
        }
    }

    private static void argument(boolean ok) {
        if (!ok) {
            throw new IllegalArgumentException();
        }
    }

    private static void state(boolean ok) {
        if (!ok) {
            throw new IllegalStateException();
        }
    }

    private static void photo(int photo) {
        index(photo >= 0 && photo < 4);
    }

    private void someplace(int place) {
        index(place >= 0 && place < seen.size());
    }

    private void cell(int x, int y) {
        index(x >= 0 && x < width && y >= 0 && y < height);
    }

    int pixel(int photo, int x, int y, int v) {
        photo(photo);
        cell(x, y);
        argument(v >= 0 && v <= 255);
        int was = cells[photo][y][x];
        cells[photo][y][x] = v;
        return was;
    }

    private int windows(int a, int ax, int ay, int b, int bx, int by) {
        int miss = 0;
        for (int i = 0; i < 9; i++) {
            int d = cells[a][ay - 1 + i / 3][ax - 1 + i % 3] - cells[b][by - 1 + i / 3][bx - 1 + i % 3];
            miss += d * d;
        }
        return miss;
    }

    int match(int a, int b, int x, int y) {
        photo(a);
        photo(b);
        index(x > 0 && y > 0 && x < width - 1 && y < height - 1);
        List<int[]> all = new ArrayList<>();
        for (int by = 1; by < height - 1; by++) {
            for (int bx = 1; bx < width - 1; bx++) {
                all.add(new int[] {windows(a, x, y, b, bx, by), by, bx});
            }
        }
        int[] best = all.stream().min((p, q) -> Integer.compare(p[0], q[0])).get();
        int other = all.stream().filter(p -> Math.max(Math.abs(p[1] - best[1]), Math.abs(p[2] - best[2])) > 1)
                .mapToInt(p -> p[0]).min().orElse(-1);
        match = new int[] {best[2], best[1], other};
        return best[0];
    }

    int found(int what) {
        index(what >= 0 && what < 3);
        state(match != null);
        return match[what];
    }

    int place() {
        state(seen.size() < 12);
        seen.add(new HashMap<>());
        spare.add(false);
        at.add(new int[2]);
        return seen.size() - 1;
    }

    boolean seen(int place, int photo, int x, int y) {
        someplace(place);
        photo(photo);
        argument(x < 0 || (x < 1000 && y >= 0 && y < 1000));
        return (x < 0 ? seen.get(place).remove(photo) : seen.get(place).put(photo, new int[] {x, y})) != null;
    }

    int relative(int a, int b, int tries, int tolerance) {
        photo(a);
        photo(b);
        argument(tries >= 1 && tries <= 20 && tolerance >= 0 && tolerance <= 100);
        List<int[]> shifts = new ArrayList<>();
        for (Map<Integer, int[]> each : seen) {
            if (each.containsKey(a) && each.containsKey(b)) {
                shifts.add(new int[] {each.get(b)[0] - each.get(a)[0], each.get(b)[1] - each.get(a)[1]});
            }
        }
        shift = null;
        int most = 0;
        for (int t = 0; t < tries && !shifts.isEmpty(); t++) {
            BigInteger z = BigInteger.valueOf(seed + 101L * t);
            for (int i = 0; i < 3; i++) {
                z = z.multiply(BigInteger.valueOf(75)).add(BigInteger.valueOf(74)).mod(BigInteger.valueOf(65537));
            }
            int[] one = shifts.get(z.intValueExact() % shifts.size());
            int agree = (int) shifts.stream().filter(s -> Math.abs(s[0] - one[0]) <= tolerance
                    && Math.abs(s[1] - one[1]) <= tolerance).count();
            if (shift == null || agree > most) {
                most = agree;
                shift = one;
            }
        }
        return most;
    }

    int shift(int axis) {
        index(axis == 0 || axis == 1);
        state(shift != null);
        return shift[axis];
    }

    boolean spare(int place, boolean on) {
        someplace(place);
        return spare.set(place, on) != on;
    }

    private static int mean(List<Long> numbers) {
        long total = numbers.stream().mapToLong(n -> n).sum();
        long rest = total % numbers.size();
        long mean = total / numbers.size();
        return (int) (rest < 0 ? mean - 1 : mean);
    }

    private void positions() {
        for (int place = 0; place < seen.size(); place++) {
            for (int axis = 0; axis < 2; axis++) {
                List<Long> all = new ArrayList<>();
                for (Map.Entry<Integer, int[]> each : seen.get(place).entrySet()) {
                    all.add(1000L * each.getValue()[axis] - offsets[each.getKey()][axis]);
                }
                at.get(place)[axis] = all.isEmpty() ? 0 : mean(all);
            }
        }
    }

    private void round() {
        for (int photo = 1; photo < 4; photo++) {
            for (int axis = 0; axis < 2; axis++) {
                List<Long> all = new ArrayList<>();
                for (int place = 0; place < seen.size(); place++) {
                    if (!spare.get(place) && seen.get(place).containsKey(photo)) {
                        all.add(1000L * seen.get(place).get(photo)[axis] - at.get(place)[axis]);
                    }
                }
                if (!all.isEmpty()) {
                    offsets[photo][axis] = mean(all);
                }
            }
        }
        positions();
    }

    int run(int rounds) {
        argument(rounds >= 0 && rounds <= 20);
        offsets = new int[4][2];
        positions();
        for (int kept = 0; kept < rounds; kept++) {
            long before = sum();
            int[][] oldOffsets = {offsets[0].clone(), offsets[1].clone(), offsets[2].clone(), offsets[3].clone()};
            List<int[]> oldAt = new ArrayList<>();
            at.forEach(each -> oldAt.add(each.clone()));
            round();
            if (sum() > before) {
                offsets = oldOffsets;
                at.clear();
                at.addAll(oldAt);
                return kept;
            }
        }
        return rounds;
    }

    long sum() {
        long sum = 0;
        for (int place = 0; place < seen.size(); place++) {
            sum += spare.get(place) ? 0 : miss(place);
        }
        return sum;
    }

    int at(int place, int axis) {
        someplace(place);
        index(axis == 0 || axis == 1);
        return at.get(place)[axis];
    }

    int offset(int photo, int axis) {
        photo(photo);
        index(axis == 0 || axis == 1);
        return offsets[photo][axis];
    }

    long miss(int place) {
        someplace(place);
        BigInteger sum = BigInteger.ZERO;
        for (Map.Entry<Integer, int[]> each : seen.get(place).entrySet()) {
            for (int axis = 0; axis < 2; axis++) {
                long off = 1000L * each.getValue()[axis] - at.get(place)[axis] - offsets[each.getKey()][axis];
                sum = sum.add(BigInteger.valueOf(off).pow(2));
            }
        }
        return sum.longValueExact();
    }

    int known(int a, int b, int length) {
        someplace(a);
        someplace(b);
        argument(a != b && length >= 1 && length <= 10000);
        state(lengths.size() < 10);
        lengths.add(new int[] {a, b, length});
        return lengths.size();
    }

    long scale(int part) {
        index(part == 0 || part == 1);
        BigInteger above = BigInteger.ZERO;
        BigInteger below = BigInteger.ZERO;
        for (int[] each : lengths) {
            long across = at.get(each[0])[0] - at.get(each[1])[0];
            long down = at.get(each[0])[1] - at.get(each[1])[1];
            BigInteger distance = BigInteger.valueOf(across * across + down * down).sqrt();
            above = above.add(distance.multiply(BigInteger.valueOf(each[2])));
            below = below.add(distance.multiply(distance));
        }
        if (below.signum() == 0) {
            return part;
        }
        BigInteger divisor = above.gcd(below);
        return (part == 0 ? above : below).divide(divisor).longValueExact();
    }

    private int costOf(int a, int b, int y, int penalty, int[] row) {
        int cost = 0;
        for (int x = 0; x < row.length; x++) {
            cost += Math.abs(cells[a][y][x] - cells[b][y][x - row[x]]);
            cost += x == 0 ? 0 : penalty * Math.abs(row[x] - row[x - 1]);
        }
        return cost;
    }

    private static boolean lesserInTheLast(int[] one, int[] other) {
        for (int x = one.length - 1; x >= 0; x--) {
            if (one[x] != other[x]) {
                return one[x] < other[x];
            }
        }
        return false;
    }

    /** Tries all rows of depths that there are, if they are few. */
    private int[] bestOfAll(int a, int b, int y, int penalty) {
        int[] row = new int[width];
        int[] best = row.clone();
        boolean more = true;
        while (more) {
            int cost = costOf(a, b, y, penalty, row);
            int least = costOf(a, b, y, penalty, best);
            if (cost < least || (cost == least && lesserInTheLast(row, best))) {
                best = row.clone();
            }
            int x = 0;
            while (x < width && row[x] == Math.min(5, x)) {
                row[x] = 0;
                x++;
            }
            more = x < width;
            if (more) {
                row[x]++;
            }
        }
        return best;
    }

    /** Keeps the best beginning of a row for each depth of its last cell. */
    private int[] bestByBeginnings(int a, int b, int y, int penalty) {
        List<int[]> bests = List.of(new int[0]);
        for (int x = 0; x < width; x++) {
            List<int[]> longer = new ArrayList<>();
            for (int depth = 0; depth <= Math.min(5, x); depth++) {
                int[] best = null;
                for (int[] each : bests) {
                    int[] row = java.util.Arrays.copyOf(each, x + 1);
                    row[x] = depth;
                    best = best == null ? row : better(a, b, y, penalty, best, row);
                }
                longer.add(best);
            }
            bests = longer;
        }
        int[] best = bests.get(0);
        for (int[] each : bests) {
            best = better(a, b, y, penalty, best, each);
        }
        return best;
    }

    private int[] better(int a, int b, int y, int penalty, int[] one, int[] other) {
        int cost = costOf(a, b, y, penalty, one);
        int otherCost = costOf(a, b, y, penalty, other);
        if (cost != otherCost) {
            return cost < otherCost ? one : other;
        }
        return lesserInTheLast(other, one) ? other : one;
    }

    int heights(int a, int b, int penalty) {
        photo(a);
        photo(b);
        argument(penalty >= 0 && penalty <= 100);
        depths = new int[height][];
        differences = new int[height][width];
        int cost = 0;
        for (int y = 0; y < height; y++) {
            depths[y] = width <= 7 ? bestOfAll(a, b, y, penalty) : bestByBeginnings(a, b, y, penalty);
            cost += costOf(a, b, y, penalty, depths[y]);
            for (int x = 0; x < width; x++) {
                differences[y][x] = Math.abs(cells[a][y][x] - cells[b][y][x - depths[y][x]]);
            }
        }
        return cost;
    }

    int depth(int x, int y) {
        cell(x, y);
        state(depths != null);
        return depths[y][x];
    }

    int holes(int level) {
        state(depths != null);
        boolean[][] left = new boolean[height][width];
        for (int y = 0; y < height; y++) {
            for (int x = 0; x < width; x++) {
                left[y][x] = differences[y][x] > level;
            }
        }
        int holes = 0;
        for (int y = 0; y < height; y++) {
            for (int x = 0; x < width; x++) {
                holes += fill(left, x, y) ? 1 : 0;
            }
        }
        return holes;
    }

    private boolean fill(boolean[][] left, int x, int y) {
        if (x < 0 || y < 0 || x >= width || y >= height || !left[y][x]) {
            return false;
        }
        left[y][x] = false;
        fill(left, x - 1, y);
        fill(left, x + 1, y);
        fill(left, x, y - 1);
        fill(left, x, y + 1);
        return true;
    }

    int count(int what) {
        index(what >= 0 && what <= 4);
        int spares = (int) spare.stream().filter(each -> each).count();
        return new int[] {width, height, seen.size(), lengths.size(), spares}[what];
    }
}
