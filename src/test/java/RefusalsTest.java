import java.util.ArrayList;
import java.util.List;

/**
 * Every call that the document refuses, in four states of an object: it throws what is due, the
 * reason that is named first comes first, and no later answer differs from that of a twin object
 * which was never asked.
 */
public final class RefusalsTest {
    private static final Checks CHECKS = new Checks("RefusalsTest");
    private static final int LOW = Integer.MIN_VALUE;
    private static final int HIGH = Integer.MAX_VALUE;
    private static final int[] NO_PHOTO = {LOW, -1, 4, HIGH};
    private static final int[] NO_AXIS = {LOW, -1, 2, HIGH};
    private static final int[] NO_VALUE = {LOW, -1, 256, HIGH};
    private static final int SIDE = 6;
    /** More calls than any state is made with; with the questions there are at most 512. */
    private static final int MAKING = 100;

    private enum State { NEW, USED, FULL, NO_PAIRS }

    interface Asked {
        Object answer(PhotoModels x);
    }

    private final State state;
    private final int places;
    private final List<String> untouched;

    private RefusalsTest(State state) {
        this.state = state;
        places = made(state).count(2);
        untouched = questions(made(state));
        CHECKS.due("few questions", untouched.size() + MAKING < 512, true);
    }

    public static void main(String[] args) {
        for (State each : State.values()) {
            RefusalsTest test = new RefusalsTest(each);
            test.pixel();
            test.match();
            test.found();
            test.place();
            test.seen();
            test.relative();
            test.shift();
            test.spare();
            test.run();
            test.positions();
            test.known();
            test.scale();
            test.heights();
            test.depth();
            test.holes();
            test.count();
        }
        CHECKS.end();
    }

    private static PhotoModels made(State state) {
        PhotoModels x = new PhotoModels(SIDE, SIDE, 77);
        if (state == State.NEW) {
            return x;
        }
        int number = state == State.FULL ? 12 : 4;
        for (int i = 0; i < number; i++) {
            x.place();
            x.seen(i, i % 3, 10 * i, 400 - 7 * i);
            x.seen(i, i % 3 + 1, 9 * i * i % 1000, 300 + i);
        }
        x.spare(1, true);
        for (int i = state == State.FULL ? 0 : 7; i < 10; i++) {
            x.known(i % number, (i + 1) % number, 100 + i);
        }
        x.run(2);
        drawPhotos(x);
        x.match(0, 1, 2, 3);
        x.heights(0, 1, 2);
        x.relative(0, 1, 20, 40);
        if (state == State.NO_PAIRS) {
            x.relative(0, 3, 20, 40);
        }
        tellOtherwise(x);
        return x;
    }

    private static void drawPhotos(PhotoModels x) {
        for (int i = 0; i < SIDE; i++) {
            x.pixel(0, i, 3, 40 * i + 5);
            x.pixel(1, (i + 5) % SIDE, 3, 40 * i + 9);
            x.pixel(1, i, 4, 17 * i);
        }
    }

    /** Whatever is searched, adjusted or raised anew from here on has other answers than before. */
    private static void tellOtherwise(PhotoModels x) {
        x.seen(0, 1, 700, 900);
        x.seen(2, 2, 3, 3);
        x.pixel(0, 2, 3, 250);
        x.pixel(1, 5, 5, 99);
        x.pixel(2, 1, 1, 60);
    }

    private static String outcome(Asked asked, PhotoModels x) {
        try {
            return String.valueOf(asked.answer(x));
        } catch (RuntimeException e) {
            return e.getClass().getName();
        }
    }

    /** Asks for all that an object can tell: first what stays as it is, then what changes it. */
    private static List<String> questions(PhotoModels x) {
        List<String> all = new ArrayList<>();
        askKept(x, all);
        for (int i = 0; i < SIDE * SIDE; i++) {
            int cell = i;
            all.add("depth " + i + ": " + outcome(o -> o.depth(cell % SIDE, cell / SIDE), x));
        }
        for (int i = 0; i < 12; i++) {
            int one = i / 3;
            int other = (one + i % 3 + 1) % 4;
            all.add("relative " + i + ": " + outcome(o -> o.relative(one, other, 20, 5), x));
            all.add("shift across " + i + ": " + outcome(o -> o.shift(0), x));
        }
        all.add("match: " + outcome(o -> o.match(0, 1, 3, 3), x));
        all.add("heights: " + outcome(o -> o.heights(1, 0, 3), x));
        all.add("run: " + outcome(o -> o.run(3), x));
        askKept(x, all);
        askTold(x, all);
        return all;
    }

    private static void askKept(PhotoModels x, List<String> all) {
        for (int i = 0; i < 5; i++) {
            int what = i;
            all.add("count " + i + ": " + outcome(o -> o.count(what), x));
            all.add("found " + i + ": " + outcome(o -> o.found(what), x));
            all.add("holes " + i + ": " + outcome(o -> o.holes(20 * what - 1), x));
        }
        for (int i = 0; i < 2; i++) {
            int axis = i;
            all.add("shift " + i + ": " + outcome(o -> o.shift(axis), x));
            all.add("scale " + i + ": " + outcome(o -> o.scale(axis), x));
        }
        all.add("sum: " + outcome(PhotoModels::sum, x));
        for (int i = 0; i < 12; i++) {
            int place = i;
            all.add("miss " + i + ": " + outcome(o -> o.miss(place), x));
            all.add("at across " + i + ": " + outcome(o -> o.at(place, 0), x));
            all.add("at down " + i + ": " + outcome(o -> o.at(place, 1), x));
        }
        for (int i = 1; i < 4; i++) {
            int photo = i;
            all.add("offset across " + i + ": " + outcome(o -> o.offset(photo, 0), x));
            all.add("offset down " + i + ": " + outcome(o -> o.offset(photo, 1), x));
        }
    }

    private static void askTold(PhotoModels x, List<String> all) {
        all.add("known: " + outcome(o -> o.known(0, 1, 7), x));
        all.add("place: " + outcome(PhotoModels::place, x));
        for (int i = 0; i < 12; i++) {
            int place = i;
            all.add("spare " + i + ": " + outcome(o -> o.spare(place, true), x));
        }
        for (int i = 0; i < 48; i++) {
            int place = i / 4;
            int photo = i % 4;
            all.add("seen " + i + ": " + outcome(o -> o.seen(place, photo, -1, 0), x));
        }
        for (int i = 0; i < 4 * SIDE * SIDE; i++) {
            int photo = i / (SIDE * SIDE);
            int cell = i % (SIDE * SIDE);
            all.add("pixel " + i + ": " + outcome(o -> o.pixel(photo, cell % SIDE, cell / SIDE, 1), x));
        }
    }

    private void refused(Class<?> due, String call, Asked asked) {
        PhotoModels x = made(state);
        CHECKS.dueThrow(state + ": " + call, due, () -> asked.answer(x));
        List<String> after = questions(x);
        for (int i = 0; i < after.size(); i++) {
            CHECKS.due(state + ": " + call + ", then " + after.get(i) + " was " + untouched.get(i),
                    after.get(i).equals(untouched.get(i)), true);
        }
    }

    private static String text(String name, int... arguments) {
        return name + java.util.Arrays.toString(arguments);
    }

    private int[] noPlaces() {
        return new int[] {LOW, -1, places, 12, HIGH};
    }

    private void pixel() {
        int[] outside = {LOW, -1, SIDE, HIGH};
        for (int v : new int[] {5, -1, 256}) {
            for (int i = 0; i < 4; i++) {
                int photo = NO_PHOTO[i];
                int off = outside[i];
                refused(Checks.INDEX, text("pixel", photo, 1, 1, v), x -> x.pixel(photo, 1, 1, v));
                refused(Checks.INDEX, text("pixel", 0, off, 1, v), x -> x.pixel(0, off, 1, v));
                refused(Checks.INDEX, text("pixel", 3, 1, off, v), x -> x.pixel(3, 1, off, v));
            }
        }
        for (int v : NO_VALUE) {
            refused(Checks.ARGUMENT, text("pixel", 0, 2, 3, v), x -> x.pixel(0, 2, 3, v));
            refused(Checks.ARGUMENT, text("pixel", 3, 5, 5, v), x -> x.pixel(3, 5, 5, v));
        }
    }

    private void match() {
        for (int photo : NO_PHOTO) {
            refused(Checks.INDEX, text("match", photo, 1, 2, 2), x -> x.match(photo, 1, 2, 2));
            refused(Checks.INDEX, text("match", 1, photo, 2, 2), x -> x.match(1, photo, 2, 2));
        }
        for (int off : new int[] {LOW, -1, 0, SIDE - 1, SIDE, HIGH}) {
            refused(Checks.INDEX, text("match", 1, 0, off, 2), x -> x.match(1, 0, off, 2));
            refused(Checks.INDEX, text("match", 1, 0, 2, off), x -> x.match(1, 0, 2, off));
            refused(Checks.INDEX, text("match", 1, 0, off, off), x -> x.match(1, 0, off, off));
        }
    }

    private void found() {
        for (int what : new int[] {LOW, -1, 3, HIGH}) {
            refused(Checks.INDEX, text("found", what), x -> x.found(what));
        }
        for (int what = 0; what < 3 && state == State.NEW; what++) {
            int one = what;
            refused(Checks.STATE, text("found", what), x -> x.found(one));
        }
    }

    private void place() {
        if (state == State.FULL) {
            refused(Checks.STATE, "place", PhotoModels::place);
        }
    }

    private void seen() {
        int[][] wheres = {{5, 5}, {-1, 5}, {1000, 5}, {5, 1000}, {5, -1}};
        for (int[] at : wheres) {
            for (int place : noPlaces()) {
                refused(Checks.INDEX, text("seen", place, 0, at[0], at[1]), x -> x.seen(place, 0, at[0], at[1]));
            }
            for (int photo : NO_PHOTO) {
                refused(Checks.INDEX, text("seen", 0, photo, at[0], at[1]), x -> x.seen(0, photo, at[0], at[1]));
            }
        }
        int[][] wrong = {{1000, 0}, {1000, 999}, {1000, -1}, {1000, 1000}, {HIGH, 5}, {0, -1}, {999, -1}, {0, 1000},
            {999, 1000}, {0, LOW}, {999, HIGH}};
        for (int i = 0; i < wrong.length && places > 0; i++) {
            int u = wrong[i][0];
            int v = wrong[i][1];
            refused(Checks.ARGUMENT, text("seen", 0, 0, u, v), x -> x.seen(0, 0, u, v));
            refused(Checks.ARGUMENT, text("seen", 3, 3, u, v), x -> x.seen(3, 3, u, v));
        }
    }

    private void relative() {
        int[][] asks = {{1, 1}, {0, 1}, {1, 101}};
        for (int photo : NO_PHOTO) {
            for (int[] ask : asks) {
                refused(Checks.INDEX, text("relative", photo, 2, ask[0], ask[1]),
                        x -> x.relative(photo, 2, ask[0], ask[1]));
                refused(Checks.INDEX, text("relative", 2, photo, ask[0], ask[1]),
                        x -> x.relative(2, photo, ask[0], ask[1]));
            }
        }
        int[][] wrong = {{0, 0}, {-1, 50}, {21, 100}, {LOW, 1}, {HIGH, 1}, {1, -1}, {20, 101}, {1, LOW}, {1, HIGH},
            {0, -1}, {21, 101}};
        for (int[] ask : wrong) {
            refused(Checks.ARGUMENT, text("relative", 2, 1, ask[0], ask[1]), x -> x.relative(2, 1, ask[0], ask[1]));
            refused(Checks.ARGUMENT, text("relative", 0, 3, ask[0], ask[1]), x -> x.relative(0, 3, ask[0], ask[1]));
        }
    }

    private void shift() {
        for (int axis : NO_AXIS) {
            refused(Checks.INDEX, text("shift", axis), x -> x.shift(axis));
        }
        if (state == State.NEW || state == State.NO_PAIRS) {
            refused(Checks.STATE, text("shift", 0), x -> x.shift(0));
            refused(Checks.STATE, text("shift", 1), x -> x.shift(1));
        }
    }

    private void spare() {
        for (int place : noPlaces()) {
            refused(Checks.INDEX, text("spare on", place), x -> x.spare(place, true));
            refused(Checks.INDEX, text("spare off", place), x -> x.spare(place, false));
        }
    }

    private void run() {
        for (int rounds : new int[] {LOW, -1, 21, HIGH}) {
            refused(Checks.ARGUMENT, text("run", rounds), x -> x.run(rounds));
        }
    }

    private void positions() {
        for (int place : noPlaces()) {
            refused(Checks.INDEX, text("at", place, 0), x -> x.at(place, 0));
            refused(Checks.INDEX, text("at", place, 2), x -> x.at(place, 2));
            refused(Checks.INDEX, text("miss", place), x -> x.miss(place));
        }
        for (int axis : NO_AXIS) {
            refused(Checks.INDEX, text("at", 0, axis), x -> x.at(0, axis));
            refused(Checks.INDEX, text("offset", 3, axis), x -> x.offset(3, axis));
            refused(Checks.INDEX, text("offset", 0, axis), x -> x.offset(0, axis));
        }
        for (int photo : NO_PHOTO) {
            refused(Checks.INDEX, text("offset", photo, 0), x -> x.offset(photo, 0));
            refused(Checks.INDEX, text("offset", photo, 1), x -> x.offset(photo, 1));
        }
    }

    private void known() {
        for (int place : noPlaces()) {
            for (int length : new int[] {5, 0, 10001}) {
                refused(Checks.INDEX, text("known", place, 0, length), x -> x.known(place, 0, length));
                refused(Checks.INDEX, text("known", 0, place, length), x -> x.known(0, place, length));
                refused(Checks.INDEX, text("known", place, place, length), x -> x.known(place, place, length));
            }
        }
        if (places == 0) {
            return;
        }
        for (int length : new int[] {LOW, -1, 0, 10001, HIGH}) {
            refused(Checks.ARGUMENT, text("known", 0, 1, length), x -> x.known(0, 1, length));
            refused(Checks.ARGUMENT, text("known", 2, 2, length), x -> x.known(2, 2, length));
        }
        refused(Checks.ARGUMENT, text("known", 0, 0, 5), x -> x.known(0, 0, 5));
        refused(Checks.ARGUMENT, text("known", 3, 3, 5), x -> x.known(3, 3, 5));
        if (state == State.FULL) {
            refused(Checks.STATE, text("known", 0, 1, 1), x -> x.known(0, 1, 1));
            refused(Checks.STATE, text("known", 11, 10, 10000), x -> x.known(11, 10, 10000));
        }
    }

    private void scale() {
        for (int part : NO_AXIS) {
            refused(Checks.INDEX, text("scale", part), x -> x.scale(part));
        }
    }

    private void heights() {
        for (int photo : NO_PHOTO) {
            for (int penalty : new int[] {5, -1, 101}) {
                refused(Checks.INDEX, text("heights", photo, 1, penalty), x -> x.heights(photo, 1, penalty));
                refused(Checks.INDEX, text("heights", 1, photo, penalty), x -> x.heights(1, photo, penalty));
            }
        }
        for (int penalty : new int[] {LOW, -1, 101, HIGH}) {
            refused(Checks.ARGUMENT, text("heights", 0, 1, penalty), x -> x.heights(0, 1, penalty));
            refused(Checks.ARGUMENT, text("heights", 2, 2, penalty), x -> x.heights(2, 2, penalty));
        }
    }

    private void depth() {
        for (int off : new int[] {LOW, -1, SIDE, HIGH}) {
            refused(Checks.INDEX, text("depth", off, 0), x -> x.depth(off, 0));
            refused(Checks.INDEX, text("depth", 0, off), x -> x.depth(0, off));
            refused(Checks.INDEX, text("depth", off, off), x -> x.depth(off, off));
        }
        if (state == State.NEW) {
            refused(Checks.STATE, text("depth", 0, 0), x -> x.depth(0, 0));
            refused(Checks.STATE, text("depth", 5, 5), x -> x.depth(5, 5));
        }
    }

    private void holes() {
        for (int level : new int[] {LOW, -1, 0, 255, HIGH}) {
            if (state == State.NEW) {
                refused(Checks.STATE, text("holes", level), x -> x.holes(level));
            }
        }
    }

    private void count() {
        for (int what : new int[] {LOW, -1, 5, HIGH}) {
            refused(Checks.INDEX, text("count", what), x -> x.count(what));
        }
    }
}
