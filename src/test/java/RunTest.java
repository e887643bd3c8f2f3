/** Promises 8 and 9: run, time. */
public final class RunTest {
    private static final Check CHECK = new Check("RunTest");

    public static void main(String[] args) {
        CHECK.sentence("So many steps are made", RunTest::soManySteps);
        CHECK.sentence("So many steps are made", RunTest::noStep);
        CHECK.sentence("in each all droplets with routes make their next moves", RunTest::allMoveAtOnce);
        CHECK.sentence("then those are joined that came to the ones that awaited them", RunTest::joinedWithinARun);
        CHECK.sentence("then each droplet that moved to another cell", RunTest::passingSensors);
        CHECK.sentence("then each droplet that moved to another cell", RunTest::waitingOnASensor);
        CHECK.sentence("then each droplet that moved to another cell", RunTest::newOnASensor);
        CHECK.sentence("(not by joining)", RunTest::joiningOnASensor);
        CHECK.sentence("(not by joining)", RunTest::joiningAndReadInOneStep);
        CHECK.sentence("and is on a sensor is READ", RunTest::onOtherKinds);
        CHECK.sentence("by its number", RunTest::byTheirNumbers);
        CHECK.sentence("Answers how many were read.", RunTest::answersHowMany);
        CHECK.sentence("IllegalArgumentException: n is not 0 .. 100", RunTest::tooFewOrTooMany);
        CHECK.sentence("The time.", RunTest::time);
        CHECK.end();
    }

    private static void noneBehind(Recorded drops, int count) {
        CHECK.refused("no reading " + count, drops, IndexOutOfBoundsException.class, () -> drops.reading(count, 0));
    }

    private static void soManySteps() {
        Recorded drops = Recorded.grid("4.......");
        drops.dispense(0);
        drops.send(0, 7, 7);
        drops.run(2);
        CHECK.looks("two moves", drops, 0, 2, 1, 12, -1, -1);
        drops.run(11);
        CHECK.looks("eleven more", drops, 0, 55, 1, 1, -1, -1);
        drops.run(100);
        CHECK.looks("a hundred, of which one has a move", drops, 0, 63, 1, 0, -1, -1);
        CHECK.due("time", drops.time(), 113);
    }

    private static void noStep() {
        Recorded drops = Recorded.grid("43......");
        drops.dispense(0);
        drops.send(0, 1, 0);
        String before = Seen.of(drops);
        CHECK.due("no step", drops.run(0), 0);
        CHECK.due("nothing has changed", Seen.of(drops), before);
        CHECK.due("a step", drops.run(1), 1);
        CHECK.due("no step on the sensor", drops.run(0), 0);
        noneBehind(drops, 1);
    }

    private static void allMoveAtOnce() {
        Recorded drops = Recorded.grid("4.......", "........", "5.......", "........", "6.......");
        for (int liquid = 0; liquid < 3; liquid++) {
            drops.dispense(liquid);
        }
        drops.send(0, 7, 0);
        drops.send(2, 5, 4);
        for (int step = 1; step < 9; step++) {
            drops.run(1);
            CHECK.due("the first", drops.look(0, 0), Math.min(7, step));
            CHECK.due("the one without a route", drops.look(1, 0), 16);
            CHECK.due("the third", drops.look(2, 0), 32 + Math.min(5, step));
        }
    }

    private static void joinedWithinARun() {
        Recorded drops = Recorded.grid("4..5....", "........", "6......7");
        for (int liquid = 0; liquid < 4; liquid++) {
            drops.dispense(liquid);
        }
        CHECK.due("three moves", drops.join(1, 0), 3);
        CHECK.due("seven moves", drops.join(2, 3), 7);
        drops.run(2);
        CHECK.due("none joined", drops.droplets(), 4);
        drops.run(1);
        CHECK.due("two joined", drops.droplets(), 3);
        CHECK.looks("the first joined one", drops, 0, 0, 2, 0, -1, -1);
        CHECK.looks("a comer still", drops, 2, 19, 1, 4, 3, -1);
        drops.run(100);
        CHECK.due("all joined", drops.droplets(), 2);
        CHECK.looks("the second joined one", drops, 3, 23, 2, 0, -1, -1);
        CHECK.shares("the second joined one", drops, 3, 0, 0, 1, 1, 1);
    }

    private static void passingSensors() {
        Recorded drops = Recorded.grid("4.33....");
        drops.run(7);
        drops.dispense(0);
        drops.send(0, 5, 0);
        CHECK.due("not there yet", drops.run(1), 0);
        noneBehind(drops, 0);
        CHECK.due("on two sensors, one after the other", drops.run(4), 2);
        CHECK.reading(drops, 0, 0, 9, 2, 1);
        CHECK.reading(drops, 1, 0, 10, 3, 1);
        noneBehind(drops, 2);
    }

    /** Droplet 0 waits on the sensor till droplet 1 has passed; only its coming is read. */
    private static void waitingOnASensor() {
        Recorded drops = Recorded.grid("111.1111", "111.1111", "43......", "111.1111", "111.1111", "1115....");
        drops.dispense(0);
        drops.send(0, 1, 2);
        CHECK.due("its coming", drops.run(1), 1);
        drops.dispense(1);
        drops.send(1, 3, 0);
        CHECK.due("it waits first", drops.send(0, 7, 2), 11);
        CHECK.due("waiting and leaving", drops.run(100), 0);
        CHECK.due("it has gone on", drops.look(0, 0), 23);
        drops.send(0, 1, 2);
        CHECK.due("coming again and resting", drops.run(100), 1);
        CHECK.due("resting", drops.run(100), 0);
        drops.send(0, 1, 2);
        CHECK.due("sent without moves", drops.run(100), 0);
        CHECK.reading(drops, 0, 0, 1, 17, 1);
        CHECK.reading(drops, 1, 0, 107, 17, 1);
        noneBehind(drops, 2);
    }

    private static void newOnASensor() {
        Recorded drops = Recorded.grid("4...5.33", "........");
        drops.dispense(0);
        drops.dispense(1);
        drops.join(0, 1);
        drops.run(4);
        drops.send(1, 6, 0);
        CHECK.due("the whole is read", drops.run(2), 1);
        drops.halve(1, false);
        CHECK.due("a half is on a sensor", drops.look(3, 0), 7);
        CHECK.due("but it has not moved", drops.run(3), 0);
        noneBehind(drops, 1);
    }

    private static void joiningOnASensor() {
        for (int comer = 0; comer < 2; comer++) {
            Recorded drops = Recorded.grid("4.3..5..", "........", "........");
            drops.dispense(comer == 1 ? 0 : 1);
            drops.send(0, 2, 0);
            drops.run(3);
            drops.dispense(comer);
            CHECK.due("the awaited one was read when it came", drops.reading(0, 2), 2);
            drops.join(1, 0);
            CHECK.due("neither is read", drops.run(3), 0);
            CHECK.due("they are joined", drops.look(0, 1), 2);
            noneBehind(drops, 1);
            CHECK.due("nor later", drops.run(5), 0);
            drops.send(0, 3, 0);
            CHECK.due("nor when it leaves", drops.run(1), 0);
            drops.send(0, 2, 0);
            CHECK.due("but when it comes back", drops.run(1), 1);
            CHECK.due("with 2 units", drops.reading(1, 3), 2);
        }
    }

    /** At time 3 droplet 1 comes to droplet 0 on a sensor, and droplet 2 to a sensor of its own. */
    private static void joiningAndReadInOneStep() {
        Recorded drops = Recorded.grid("3..5....", "4.......", "........", "........", "6..3....");
        drops.dispense(0);
        drops.send(0, 0, 0);
        CHECK.due("the awaited one comes", drops.run(1), 1);
        drops.dispense(1);
        drops.dispense(2);
        drops.join(1, 0);
        drops.send(2, 3, 4);
        CHECK.due("before", drops.run(2), 0);
        CHECK.due("one is read, none by joining", drops.run(1), 1);
        CHECK.due("joined", drops.look(0, 1), 2);
        CHECK.reading(drops, 1, 2, 4, 35, 1);
    }

    private static void onOtherKinds() {
        Recorded drops = Recorded.grid("40245673");
        drops.dispense(0);
        drops.send(0, 6, 0);
        CHECK.due("plain cells, a sink and sources", drops.run(6), 0);
        drops.send(0, 7, 0);
        CHECK.due("a sensor", drops.run(1), 1);
    }

    /** The one with the greater number comes to the lesser cell; then each of them to the other side. */
    private static void byTheirNumbers() {
        Recorded drops = Recorded.grid(".3......", "5.......", "........", "........", "4.......", ".3......", "........", "6.......");
        drops.dispense(0);
        drops.dispense(1);
        drops.send(0, 1, 5);
        drops.send(1, 1, 0);
        CHECK.due("both at once", drops.run(5), 2);
        CHECK.reading(drops, 0, 0, 2, 41, 1);
        CHECK.reading(drops, 1, 1, 2, 1, 1);
        drops.send(1, 0, 1);
        drops.send(0, 0, 4);
        drops.run(5);
        drops.send(1, 1, 0);
        drops.send(0, 1, 5);
        CHECK.due("sent in the other order", drops.run(5), 2);
        CHECK.reading(drops, 2, 0, 12, 41, 1);
        CHECK.reading(drops, 3, 1, 12, 1, 1);
    }

    private static void answersHowMany() {
        Recorded drops = Recorded.grid("43333333", "........", "53333333");
        drops.dispense(0);
        drops.dispense(1);
        drops.send(0, 7, 0);
        drops.send(1, 7, 2);
        CHECK.due("two in a step", drops.run(1), 2);
        CHECK.due("twelve in a run", drops.run(100), 12);
        CHECK.due("none later", drops.run(100), 0);
    }

    private static void tooFewOrTooMany() {
        Recorded drops = Recorded.grid("43......");
        drops.dispense(0);
        drops.send(0, 1, 0);
        for (int bad : new int[] {-1, -100, 101, 256, Integer.MIN_VALUE, Integer.MAX_VALUE}) {
            CHECK.refused("run(" + bad + ")", drops, IllegalArgumentException.class, () -> drops.run(bad));
        }
        CHECK.due("the least", drops.run(0), 0);
        CHECK.due("the greatest", drops.run(100), 1);
        CHECK.due("time", drops.time(), 100);
    }

    private static void time() {
        Recorded drops = new Recorded();
        int time = 0;
        for (int n = 0; n <= 100; n++) {
            drops.run(n);
            time += n;
            CHECK.due("time", drops.time(), time);
        }
        for (int i = 0; i < 300; i++) {
            drops.run(100);
        }
        CHECK.due("a long time", drops.time(), time + 30000);
    }
}
