/** Promise 14: reading. */
public final class ReadingTest {
    private static final Check CHECK = new Check("ReadingTest");

    public static void main(String[] args) {
        CHECK.sentence("what = 0 the droplet, 1 the time (behind the step), 2 the cell, 3 its units", ReadingTest::whatIsRead);
        CHECK.sentence("what = 0 the droplet, 1 the time (behind the step), 2 the cell, 3 its units", ReadingTest::asItWasThen);
        CHECK.sentence("IndexOutOfBoundsException: there is no such reading", ReadingTest::noSuchReading);
        CHECK.sentence("or what", ReadingTest::noSuchWhat);
        CHECK.sentence("only the latest 50 are kept", ReadingTest::upToFifty);
        CHECK.sentence("only the latest 50 are kept", ReadingTest::manyInOneRun);
        CHECK.sentence("the oldest of them being 0", ReadingTest::oldestFirst);
        CHECK.end();
    }

    private static void noneBehind(Recorded drops, int count) {
        CHECK.refused("no reading " + count, drops, IndexOutOfBoundsException.class, () -> drops.reading(count, 0));
    }

    private static void whatIsRead() {
        Recorded drops = Recorded.grid("4.......", ".3......");
        drops.run(5);
        drops.dispense(0);
        drops.send(0, 1, 1);
        CHECK.due("read", drops.run(9), 1);
        CHECK.reading(drops, 0, 0, 7, 9, 1);
        for (int i = 0; i < 400; i++) {
            drops.run(100);
        }
        drops.send(0, 1, 2);
        drops.run(1);
        drops.send(0, 1, 1);
        CHECK.due("read at a late time", drops.run(1), 1);
        CHECK.reading(drops, 1, 0, 40016, 9, 1);
    }

    /** Later it is halved, thrown away and followed by others; the reading tells what it was. */
    private static void asItWasThen() {
        Recorded drops = Recorded.grid("4..5....", "....3...", "........", "....2...");
        drops.dispense(0);
        drops.dispense(1);
        drops.join(0, 1);
        drops.run(3);
        drops.send(1, 4, 1);
        drops.run(2);
        CHECK.reading(drops, 0, 1, 5, 12, 2);
        drops.send(1, 4, 2);
        drops.run(1);
        drops.halve(1, true);
        drops.discard(3);
        drops.send(2, 4, 3);
        drops.run(2);
        drops.discard(2);
        drops.cell(4, 1, 0);
        CHECK.due("none is left", drops.droplets(), 0);
        CHECK.reading(drops, 0, 1, 5, 12, 2);
        noneBehind(drops, 1);
    }

    private static void noSuchReading() {
        Recorded drops = Recorded.grid("43.3....");
        noneBehind(drops, 0);
        drops.dispense(0);
        drops.send(0, 3, 0);
        drops.run(1);
        noneBehind(drops, 1);
        drops.run(2);
        for (int bad : new int[] {-1, 2, 49, 50, -50, Integer.MIN_VALUE, Integer.MAX_VALUE}) {
            for (int what = 0; what < 4; what++) {
                int which = what;
                CHECK.refused("reading(" + bad + ", " + what + ")", drops, IndexOutOfBoundsException.class, () -> drops.reading(bad, which));
            }
        }
    }

    private static void noSuchWhat() {
        Recorded drops = Recorded.grid("43.3....");
        drops.dispense(0);
        drops.send(0, 3, 0);
        drops.run(3);
        for (int bad : new int[] {-1, 4, Integer.MIN_VALUE, Integer.MAX_VALUE}) {
            for (int i = -1; i < 3; i++) {
                int which = i;
                CHECK.refused("reading(" + i + ", " + bad + ")", drops, IndexOutOfBoundsException.class, () -> drops.reading(which, bad));
            }
        }
    }

    /** Droplet 0 goes from sensor to sensor between cells 1 and 2, and is read at each step. */
    private static Recorded readTimes(int times) {
        Recorded drops = Recorded.grid("433.....");
        drops.dispense(0);
        for (int i = 0; i < times; i++) {
            drops.send(0, 1 + i % 2, 0);
            drops.run(1);
        }
        return drops;
    }

    private static void upToFifty() {
        for (int times = 48; times <= 53; times++) {
            Recorded drops = readTimes(times);
            int kept = Math.min(50, times);
            noneBehind(drops, kept);
            CHECK.reading(drops, kept - 1, 0, times, 1 + (times - 1) % 2, 1);
            int first = times - kept;
            CHECK.reading(drops, 0, 0, first + 1, 1 + first % 2, 1);
        }
    }

    /** Two droplets go to and fro over six sensors each; 12 are read in each run, and 84 in all. */
    private static void manyInOneRun() {
        Recorded drops = Recorded.grid("4333333.", "........", "5333333.");
        drops.dispense(0);
        drops.dispense(1);
        for (int round = 0; round < 7; round++) {
            int x = round % 2 == 0 ? 7 : 0;
            drops.send(0, x, 0);
            drops.send(1, x, 2);
            CHECK.due("read in a run", drops.run(7), 12);
        }
        noneBehind(drops, 50);
        for (int i = 0; i < 50; i++) {
            int nth = i + 34;
            int round = nth / 12;
            int step = nth % 12 / 2 + 1;
            int x = round % 2 == 0 ? step : 7 - step;
            CHECK.reading(drops, i, nth % 2, 7 * round + step, nth % 2 * 16 + x, 1);
        }
    }

    private static void oldestFirst() {
        Recorded drops = readTimes(120);
        for (int i = 0; i < 50; i++) {
            CHECK.reading(drops, i, 0, 71 + i, 1 + i % 2);
        }
        Recorded few = readTimes(7);
        for (int i = 0; i < 7; i++) {
            CHECK.reading(few, i, 0, 1 + i, 1 + i % 2);
        }
    }
}
