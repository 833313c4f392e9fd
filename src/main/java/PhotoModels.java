import java.util.Arrays;

/**
 * Photos of an object: windows found again, shifts that places agree with, places and photos
 * adjusted in rounds, scale by known lengths, heights with the least cost, and holes.
 *
 * <p>The public methods look at their arguments, in the order that the document asks for, ahead of
 * any change; the classes inside may therefore rely on them. Every row is made in a constructor and
 * used again, so that no call makes anything but the exception that it throws.
 */
public final class PhotoModels {
    public static final int NONE = -1;

    private static final int LEAST_SIDE = 6;
    private static final int GREATEST_SIDE = 20;
    private static final int GREATEST_SEED = 65536;
    private static final int GREATEST_VALUE = 255;
    private static final int GREATEST_SEEN = 999;
    private static final int GREATEST_TRIES = 20;
    private static final int GREATEST_TOLERANCE = 100;
    private static final int GREATEST_ROUNDS = 20;
    private static final int GREATEST_LENGTH = 10000;
    private static final int GREATEST_PENALTY = 100;
    private static final int PHOTOS = 4;
    private static final int PLACES = 12;
    private static final int LENGTHS = 10;
    private static final int DEPTHS = 6;
    private static final int AXES = 2;
    private static final int PARTS = 2;

    private final Photos photos;
    private final Search search;
    private final Places places;
    private final Agreement agreement;
    private final Adjustment adjustment;
    private final Lengths lengths;
    private final Relief relief;

    public PhotoModels(int width, int height, int seed) {
        int across = within(width, LEAST_SIDE, GREATEST_SIDE);
        int down = within(height, LEAST_SIDE, GREATEST_SIDE);
        photos = new Photos(across, down);
        search = new Search(across, down);
        places = new Places();
        agreement = new Agreement(within(seed, 0, GREATEST_SEED));
        adjustment = new Adjustment();
        lengths = new Lengths();
        relief = new Relief(across, down);
    }

    public int pixel(int photo, int x, int y, int v)
            throws IndexOutOfBoundsException, IllegalArgumentException {
        needIndex(isPhoto(photo) && photos.hasCell(x, y));
        needArgument(isWithin(v, 0, GREATEST_VALUE));
        return photos.change(photo, x, y, v);
    }

    public int match(int a, int b, int x, int y) throws IndexOutOfBoundsException {
        needIndex(isPhoto(a) && isPhoto(b) && photos.hasWindow(x, y));
        return search.look(photos, a, b, x, y);
    }

    public int found(int what) throws IndexOutOfBoundsException, IllegalStateException {
        needIndex(isWithin(what, 0, 2));
        needState(search.isDone());
        return search.answer(what);
    }

    public int place() throws IllegalStateException {
        needState(places.number() < PLACES);
        return places.add();
    }

    public boolean seen(int place, int photo, int x, int y)
            throws IndexOutOfBoundsException, IllegalArgumentException {
        needIndex(places.has(place) && isPhoto(photo));
        needArgument(x < 0 || (x <= GREATEST_SEEN && isWithin(y, 0, GREATEST_SEEN)));
        return x < 0 ? places.forget(place, photo) : places.note(place, photo, x, y);
    }

    public int relative(int a, int b, int tries, int tolerance)
            throws IndexOutOfBoundsException, IllegalArgumentException {
        needIndex(isPhoto(a) && isPhoto(b));
        needArgument(isWithin(tries, 1, GREATEST_TRIES));
        needArgument(isWithin(tolerance, 0, GREATEST_TOLERANCE));
        return agreement.draw(places, a, b, tries, tolerance);
    }

    public int shift(int axis) throws IndexOutOfBoundsException, IllegalStateException {
        needIndex(isAxis(axis));
        needState(agreement.isReached());
        return agreement.along(axis);
    }

    public boolean spare(int place, boolean on) throws IndexOutOfBoundsException {
        needIndex(places.has(place));
        return places.setAside(place, on);
    }

    public int run(int rounds) throws IllegalArgumentException {
        needArgument(isWithin(rounds, 0, GREATEST_ROUNDS));
        return adjustment.adjust(places, rounds);
    }

    public long sum() {
        return adjustment.total(places);
    }

    public int at(int place, int axis) throws IndexOutOfBoundsException {
        needIndex(places.has(place) && isAxis(axis));
        return adjustment.position(place, axis);
    }

    public int offset(int photo, int axis) throws IndexOutOfBoundsException {
        needIndex(isPhoto(photo) && isAxis(axis));
        return adjustment.moved(photo, axis);
    }

    public long miss(int place) throws IndexOutOfBoundsException {
        needIndex(places.has(place));
        return adjustment.share(places, place);
    }

    public int known(int a, int b, int length)
            throws IndexOutOfBoundsException, IllegalArgumentException, IllegalStateException {
        needIndex(places.has(a) && places.has(b));
        needArgument(a != b && isWithin(length, 1, GREATEST_LENGTH));
        needState(lengths.number() < LENGTHS);
        return lengths.add(a, b, length);
    }

    public long scale(int part) throws IndexOutOfBoundsException {
        needIndex(isWithin(part, 0, PARTS - 1));
        return lengths.fraction(adjustment, part);
    }

    public int heights(int a, int b, int penalty)
            throws IndexOutOfBoundsException, IllegalArgumentException {
        needIndex(isPhoto(a) && isPhoto(b));
        needArgument(isWithin(penalty, 0, GREATEST_PENALTY));
        return relief.raise(photos, a, b, penalty);
    }

    public int depth(int x, int y) throws IndexOutOfBoundsException, IllegalStateException {
        needIndex(photos.hasCell(x, y));
        needState(relief.isRaised());
        return relief.depthOf(x, y);
    }

    public int holes(int level) throws IllegalStateException {
        needState(relief.isRaised());
        return relief.holesAbove(level);
    }

    public int count(int what) throws IndexOutOfBoundsException {
        switch (what) {
            case 0:
                return photos.width();
            case 1:
                return photos.height();
            case 2:
                return places.number();
            case 3:
                return lengths.number();
            case 4:
                return places.spares();
            default:
                throw new IndexOutOfBoundsException("no such count");
        }
    }

    private static boolean isPhoto(int photo) {
        return isWithin(photo, 0, PHOTOS - 1);
    }

    private static boolean isAxis(int axis) {
        return isWithin(axis, 0, AXES - 1);
    }

    private static boolean isWithin(int number, int least, int greatest) {
        return number >= least && number <= greatest;
    }

    private static int within(int number, int least, int greatest) {
        return Math.max(least, Math.min(greatest, number));
    }

    private static void needIndex(boolean exists) {
        if (!exists) {
            throw new IndexOutOfBoundsException("no such photo, cell, place or what");
        }
    }

    private static void needArgument(boolean fits) {
        if (!fits) {
            throw new IllegalArgumentException("an argument is not in its range");
        }
    }

    private static void needState(boolean ready) {
        if (!ready) {
            throw new IllegalStateException("not now");
        }
    }

    /** The four photos' cells. */
    private static final class Photos {
        private final int width;
        private final int height;
        private final int[] values;

        Photos(int width, int height) {
            this.width = width;
            this.height = height;
            values = new int[PHOTOS * width * height];
        }

        int width() {
            return width;
        }

        int height() {
            return height;
        }

        boolean hasCell(int x, int y) {
            return isWithin(x, 0, width - 1) && isWithin(y, 0, height - 1);
        }

        boolean hasWindow(int x, int y) {
            return isWithin(x, 1, width - 2) && isWithin(y, 1, height - 2);
        }

        int value(int photo, int x, int y) {
            return values[index(photo, x, y)];
        }

        int change(int photo, int x, int y, int value) {
            int index = index(photo, x, y);
            int before = values[index];
            values[index] = value;
            return before;
        }

        int windowMiss(int a, int ax, int ay, int b, int bx, int by) {
            int total = 0;
            for (int down = -1; down <= 1; down++) {
                int inA = index(a, ax, ay + down);
                int inB = index(b, bx, by + down);
                for (int across = -1; across <= 1; across++) {
                    int difference = values[inA + across] - values[inB + across];
                    total += difference * difference;
                }
            }
            return total;
        }

        private int index(int photo, int x, int y) {
            return (photo * height + y) * width + x;
        }
    }

    /** The latest search for a window; it is kept as it was, whatever the photos become. */
    private static final class Search {
        private final int width;
        private final int height;
        private final int[] misses;
        private boolean done;
        private int foundX;
        private int foundY;
        private int leastElsewhere;

        Search(int width, int height) {
            this.width = width;
            this.height = height;
            misses = new int[width * height];
        }

        boolean isDone() {
            return done;
        }

        int answer(int what) {
            if (what == 2) {
                return leastElsewhere;
            }
            return what == 0 ? foundX : foundY;
        }

        int look(Photos photos, int a, int b, int x, int y) {
            int least = NONE;
            for (int by = 1; by < height - 1; by++) {
                for (int bx = 1; bx < width - 1; bx++) {
                    int miss = photos.windowMiss(a, x, y, b, bx, by);
                    misses[by * width + bx] = miss;
                    if (isLess(miss, least)) {
                        least = miss;
                        foundX = bx;
                        foundY = by;
                    }
                }
            }
            leastElsewhere = leastFarFromFound();
            done = true;
            return least;
        }

        private int leastFarFromFound() {
            int least = NONE;
            for (int y = 1; y < height - 1; y++) {
                for (int x = 1; x < width - 1; x++) {
                    int miss = misses[y * width + x];
                    if (isFarFromFound(x, y) && isLess(miss, least)) {
                        least = miss;
                    }
                }
            }
            return least;
        }

        private static boolean isLess(int miss, int least) {
            return least == NONE || miss < least;
        }

        private boolean isFarFromFound(int x, int y) {
            return Math.abs(x - foundX) > 1 || Math.abs(y - foundY) > 1;
        }
    }

    /** The places: where the photos see them, and which are spare. */
    private static final class Places {
        private final boolean[] aside = new boolean[PLACES];
        private final boolean[] noted = new boolean[PLACES * PHOTOS];
        private final int[] where = new int[PLACES * PHOTOS * AXES];
        private int number;
        private int spares;

        int number() {
            return number;
        }

        int spares() {
            return spares;
        }

        boolean has(int place) {
            return place >= 0 && place < number;
        }

        int add() {
            int place = number;
            number++;
            return place;
        }

        boolean isSpare(int place) {
            return aside[place];
        }

        boolean setAside(int place, boolean on) {
            if (aside[place] == on) {
                return false;
            }
            aside[place] = on;
            spares += on ? 1 : -1;
            return true;
        }

        boolean isNoted(int place, int photo) {
            return noted[place * PHOTOS + photo];
        }

        int where(int place, int photo, int axis) {
            return where[(place * PHOTOS + photo) * AXES + axis];
        }

        boolean forget(int place, int photo) {
            boolean before = isNoted(place, photo);
            noted[place * PHOTOS + photo] = false;
            return before;
        }

        boolean note(int place, int photo, int x, int y) {
            int index = place * PHOTOS + photo;
            boolean before = noted[index];
            noted[index] = true;
            where[index * AXES] = x;
            where[index * AXES + 1] = y;
            return before;
        }
    }

    /** The latest shift of one photo against another one that the most places agree with. */
    private static final class Agreement {
        private final int seed;
        private final int[] shiftX = new int[PLACES];
        private final int[] shiftY = new int[PLACES];
        private int number;
        private boolean reached;
        private int bestX;
        private int bestY;

        Agreement(int seed) {
            this.seed = seed;
        }

        boolean isReached() {
            return reached;
        }

        int along(int axis) {
            return axis == 0 ? bestX : bestY;
        }

        int draw(Places places, int a, int b, int tries, int tolerance) {
            gatherShifts(places, a, b);
            reached = number > 0;
            int most = 0;
            for (int t = 0; t < tries && number > 0; t++) {
                int drawn = drawnNumber(t) % number;
                int agreeing = agreeingWith(drawn, tolerance);
                if (agreeing > most) {
                    most = agreeing;
                    bestX = shiftX[drawn];
                    bestY = shiftY[drawn];
                }
            }
            return most;
        }

        private void gatherShifts(Places places, int a, int b) {
            number = 0;
            for (int place = 0; place < places.number(); place++) {
                if (places.isNoted(place, a) && places.isNoted(place, b)) {
                    shiftX[number] = places.where(place, b, 0) - places.where(place, a, 0);
                    shiftY[number] = places.where(place, b, 1) - places.where(place, a, 1);
                    number++;
                }
            }
        }

        private int agreeingWith(int drawn, int tolerance) {
            int agreeing = 0;
            for (int i = 0; i < number; i++) {
                if (Math.abs(shiftX[i] - shiftX[drawn]) <= tolerance
                        && Math.abs(shiftY[i] - shiftY[drawn]) <= tolerance) {
                    agreeing++;
                }
            }
            return agreeing;
        }

        private int drawnNumber(int t) {
            int z = (seed + 101 * t) % 65537;
            for (int i = 0; i < 3; i++) {
                z = (75 * z + 74) % 65537;
            }
            return z;
        }
    }

    /**
     * Positions of places and offsets of photos, as the latest run left them. Only places that there
     * are ever move, so that a new one is at 0, 0.
     */
    private static final class Adjustment {
        private final int[] positions = new int[PLACES * AXES];
        private final int[] offsets = new int[PHOTOS * AXES];
        private final int[] positionsBefore = new int[PLACES * AXES];
        private final int[] offsetsBefore = new int[PHOTOS * AXES];

        int position(int place, int axis) {
            return positions[place * AXES + axis];
        }

        int moved(int photo, int axis) {
            return offsets[photo * AXES + axis];
        }

        int adjust(Places places, int rounds) {
            begin(places);
            long before = total(places);
            for (int kept = 0; kept < rounds; kept++) {
                remember();
                doRound(places);
                long after = total(places);
                if (after > before) {
                    undo();
                    return kept;
                }
                before = after;
            }
            return rounds;
        }

        long total(Places places) {
            long total = 0;
            for (int place = 0; place < places.number(); place++) {
                if (!places.isSpare(place)) {
                    total += share(places, place);
                }
            }
            return total;
        }

        long share(Places places, int place) {
            long total = 0;
            for (int photo = 0; photo < PHOTOS; photo++) {
                if (places.isNoted(place, photo)) {
                    for (int axis = 0; axis < AXES; axis++) {
                        long off = 1000L * places.where(place, photo, axis)
                                - position(place, axis) - moved(photo, axis);
                        total += off * off;
                    }
                }
            }
            return total;
        }

        private void begin(Places places) {
            Arrays.fill(offsets, 0);
            movePlaces(places);
        }

        private void doRound(Places places) {
            for (int photo = 1; photo < PHOTOS; photo++) {
                for (int axis = 0; axis < AXES; axis++) {
                    movePhoto(places, photo, axis);
                }
            }
            movePlaces(places);
        }

        private void movePhoto(Places places, int photo, int axis) {
            long total = 0;
            int seeing = 0;
            for (int place = 0; place < places.number(); place++) {
                if (!places.isSpare(place) && places.isNoted(place, photo)) {
                    total += 1000L * places.where(place, photo, axis) - position(place, axis);
                    seeing++;
                }
            }
            offsets[photo * AXES + axis] = mean(total, seeing, moved(photo, axis));
        }

        private void movePlaces(Places places) {
            for (int place = 0; place < places.number(); place++) {
                for (int axis = 0; axis < AXES; axis++) {
                    movePlace(places, place, axis);
                }
            }
        }

        private void movePlace(Places places, int place, int axis) {
            long total = 0;
            int seeing = 0;
            for (int photo = 0; photo < PHOTOS; photo++) {
                if (places.isNoted(place, photo)) {
                    total += 1000L * places.where(place, photo, axis) - moved(photo, axis);
                    seeing++;
                }
            }
            positions[place * AXES + axis] = mean(total, seeing, 0);
        }

        private static int mean(long total, int number, int withoutAny) {
            return number == 0 ? withoutAny : (int) Math.floorDiv(total, (long) number);
        }

        private void remember() {
            System.arraycopy(positions, 0, positionsBefore, 0, positions.length);
            System.arraycopy(offsets, 0, offsetsBefore, 0, offsets.length);
        }

        private void undo() {
            System.arraycopy(positionsBefore, 0, positions, 0, positions.length);
            System.arraycopy(offsetsBefore, 0, offsets, 0, offsets.length);
        }
    }

    /** The known lengths between places, and the scale that they tell. */
    private static final class Lengths {
        private final int[] from = new int[LENGTHS];
        private final int[] to = new int[LENGTHS];
        private final int[] length = new int[LENGTHS];
        private int number;

        int number() {
            return number;
        }

        int add(int a, int b, int known) {
            from[number] = a;
            to[number] = b;
            length[number] = known;
            number++;
            return number;
        }

        long fraction(Adjustment adjustment, int part) {
            long above = 0;
            long below = 0;
            for (int i = 0; i < number; i++) {
                long distance = distance(adjustment, from[i], to[i]);
                above += length[i] * distance;
                below += distance * distance;
            }
            long divisor = commonDivisor(above, below);
            // Only two noughts have no divisor, and they stand for 0 / 1.
            if (divisor == 0) {
                return part == 0 ? 0 : 1;
            }
            return (part == 0 ? above : below) / divisor;
        }

        private static long distance(Adjustment adjustment, int a, int b) {
            long across = (long) adjustment.position(a, 0) - adjustment.position(b, 0);
            long down = (long) adjustment.position(a, 1) - adjustment.position(b, 1);
            return rootDown(across * across + down * down);
        }

        private static long rootDown(long square) {
            long root = 0;
            // Twenty rounds leave every distance under 2^26, so no root needs a bit above 2^30.
            for (int bit = 30; bit >= 0; bit--) {
                long greater = root + (1L << bit);
                if (greater * greater <= square) {
                    root = greater;
                }
            }
            return root;
        }

        private static long commonDivisor(long a, long b) {
            long greater = a;
            long lesser = b;
            // Numbers of 63 bits need no more than 92 steps.
            for (int step = 0; step < 100 && lesser != 0; step++) {
                long rest = greater % lesser;
                greater = lesser;
                lesser = rest;
            }
            return greater;
        }
    }

    /** The latest heights: depths and differences are kept as they were, whatever photos become. */
    private static final class Relief {
        private final int width;
        private final int height;
        private final int[] depths;
        private final int[] differences;
        private final int[] costs;
        private final int margined;
        private final boolean[] open;
        private final int[] queue;
        private int queued;
        private boolean raised;

        Relief(int width, int height) {
            this.width = width;
            this.height = height;
            depths = new int[width * height];
            differences = new int[width * height];
            costs = new int[width * DEPTHS];
            // A margin that is never open gives every cell four neighbours to ask.
            margined = width + 2;
            open = new boolean[margined * (height + 2)];
            queue = new int[width * height];
        }

        boolean isRaised() {
            return raised;
        }

        int depthOf(int x, int y) {
            return depths[y * width + x];
        }

        int raise(Photos photos, int a, int b, int penalty) {
            int total = 0;
            for (int y = 0; y < height; y++) {
                fillCosts(photos, a, b, y, penalty);
                total += traceBack(photos, a, b, y, penalty);
            }
            raised = true;
            return total;
        }

        private void fillCosts(Photos photos, int a, int b, int y, int penalty) {
            for (int x = 0; x < width; x++) {
                for (int depth = 0; depth < depthsAt(x); depth++) {
                    int cost = difference(photos, a, b, x, y, depth);
                    if (x > 0) {
                        int ahead = bestAhead(x, depth, penalty);
                        cost += costAhead(x, ahead, depth, penalty);
                    }
                    costs[x * DEPTHS + depth] = cost;
                }
            }
        }

        /** Goes from the last cell to the first, as the lesser depth counts most in the last. */
        private int traceBack(Photos photos, int a, int b, int y, int penalty) {
            int depth = bestAhead(width, 0, 0);
            int cost = costAhead(width, depth, 0, 0);
            for (int x = width - 1; x >= 0; x--) {
                depths[y * width + x] = depth;
                differences[y * width + x] = difference(photos, a, b, x, y, depth);
                if (x > 0) {
                    depth = bestAhead(x, depth, penalty);
                }
            }
            return cost;
        }

        /** The least of the best depths of the cell ahead of x, if x (above 0) has this depth. */
        private int bestAhead(int x, int depth, int penalty) {
            int best = 0;
            int least = costAhead(x, 0, depth, penalty);
            for (int ahead = 1; ahead < depthsAt(x - 1); ahead++) {
                int cost = costAhead(x, ahead, depth, penalty);
                if (cost < least) {
                    least = cost;
                    best = ahead;
                }
            }
            return best;
        }

        private int costAhead(int x, int ahead, int depth, int penalty) {
            return costs[(x - 1) * DEPTHS + ahead] + penalty * Math.abs(depth - ahead);
        }

        private static int depthsAt(int x) {
            return Math.min(DEPTHS, x + 1);
        }

        private static int difference(Photos photos, int a, int b, int x, int y, int depth) {
            return Math.abs(photos.value(a, x, y) - photos.value(b, x - depth, y));
        }

        int holesAbove(int level) {
            openAbove(level);
            int holes = 0;
            for (int y = 0; y < height; y++) {
                for (int x = 0; x < width; x++) {
                    int cell = marginedIndex(x, y);
                    if (open[cell]) {
                        holes++;
                        closeAround(cell);
                    }
                }
            }
            return holes;
        }

        private void openAbove(int level) {
            for (int y = 0; y < height; y++) {
                for (int x = 0; x < width; x++) {
                    open[marginedIndex(x, y)] = differences[y * width + x] > level;
                }
            }
        }

        private void closeAround(int start) {
            queued = 0;
            closeIfOpen(start);
            for (int next = 0; next < queued && next < queue.length; next++) {
                int cell = queue[next];
                closeIfOpen(cell - 1);
                closeIfOpen(cell + 1);
                closeIfOpen(cell - margined);
                closeIfOpen(cell + margined);
            }
        }

        /** A cell is closed as it is queued, so that the queue has room for all. */
        private void closeIfOpen(int cell) {
            if (open[cell]) {
                open[cell] = false;
                queue[queued] = cell;
                queued++;
            }
        }

        private int marginedIndex(int x, int y) {
            return (y + 1) * margined + x + 1;
        }
    }
}
