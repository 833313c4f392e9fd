import java.nio.file.Files;
import java.nio.file.Path;

/** The example of README.md: it is the one that is run here, and answers what it says. */
public final class UsageTest {
    public static void main(String[] args) throws Exception {
        Checks checks = new Checks("UsageTest");
        runExample(checks);
        checkReadme(checks);
        checks.end();
    }

    private static void runExample(Checks checks) {
        // The example begins.
        PhotoModels m = new PhotoModels(20, 12, 7); // width, height, seed

        int before = m.pixel(0, 4, 5, 200); // photo, x, y, value: it was 0
        m.pixel(1, 2, 5, 190);
        int miss = m.match(0, 1, 4, 5); // photo 0's window at 4, 5, looked for in photo 1: 100
        int x = m.found(0), y = m.found(1); // it was found at 2, 5
        int elsewhere = m.found(2); // the least miss more than one cell from there: 40000

        int a = m.place(), b = m.place(), c = m.place(); // 0, 1, 2
        m.seen(a, 0, 100, 100); // place, photo, x, y: false, as it was not seen in photo 0
        m.seen(a, 1, 110, 95);
        m.seen(b, 0, 300, 50);
        m.seen(b, 1, 311, 46);
        m.seen(c, 0, 200, 200);
        m.seen(c, 1, 250, 200);
        int agree = m.relative(0, 1, 20, 1); // photos, tries, tolerance: 2 places agree
        int across = m.shift(0), down = m.shift(1); // on the shift 11, -4

        m.spare(c, true); // place 2 only checks the others from now on
        int kept = m.run(20); // begins anew, and does up to 20 rounds: all were kept
        long sum = m.sum(); // 500002, without the spare place
        long check = m.miss(c); // 790245501, what the spare place would add
        int positionX = m.at(a, 0), positionY = m.at(a, 1); // 99750, 99749 thousandths
        int offsetX = m.offset(1, 0), offsetY = m.offset(1, 1); // 10500, -4499 thousandths
        int lengths = m.known(a, b, 250); // 250 between places 0 and 1: 1 length is known
        long above = m.scale(0), below = m.scale(1); // the scale is 250 / 206519
        boolean was = m.seen(c, 1, -1, 0); // x below 0: not seen in photo 1 any more; it was

        int cost = m.heights(0, 1, 3); // photos, penalty: 16
        int depth = m.depth(4, 5); // 2
        int holes = m.holes(9); // 1 hole of cells that differ by more than 9
        int spares = m.count(4); // 0 width, 1 height, 2 places, 3 known lengths, 4 spare places: 1
        // The example ends.
        checks.due("before", before, 0);
        checks.due("miss", miss, 100);
        checks.due("x", x, 2);
        checks.due("y", y, 5);
        checks.due("elsewhere", elsewhere, 40000);
        checks.due("a, b, c", a * 100 + b * 10 + c, 12);
        checks.due("agree", agree, 2);
        checks.due("across", across, 11);
        checks.due("down", down, -4);
        checks.due("kept", kept, 20);
        checks.due("sum", sum, 500002);
        checks.due("check", check, 790245501);
        checks.due("positionX", positionX, 99750);
        checks.due("positionY", positionY, 99749);
        checks.due("offsetX", offsetX, 10500);
        checks.due("offsetY", offsetY, -4499);
        checks.due("lengths", lengths, 1);
        checks.due("above", above, 250);
        checks.due("below", below, 206519);
        checks.due("was", was, true);
        checks.due("cost", cost, 16);
        checks.due("depth", depth, 2);
        checks.due("holes", holes, 1);
        checks.due("spares", spares, 1);
    }

    private static void checkReadme(Checks checks) throws Exception {
        String readme = Files.readString(Path.of("README.md"));
        String source = Files.readString(Path.of("src/test/java/UsageTest.java"));
        String example = between(source, "// The example begins.\n", "        // The example ends.");
        checks.due("the example has lines", example.length() > 1000, true);
        checks.due("README.md has the example",
                between(readme, "```java\n", "```").equals(example.replaceAll("(?m)^ {8}", "")), true);
    }

    private static String between(String text, String begin, String end) {
        int start = text.indexOf(begin) + begin.length();
        int stop = text.indexOf(end, start);
        return text.contains(begin) && stop >= 0 ? text.substring(start, stop) : "";
    }
}
