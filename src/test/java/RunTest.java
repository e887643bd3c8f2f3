/** Promises 8, 9 and 14: run, time, reading. */
public final class RunTest {
    private static final Check CHECK = new Check("RunTest");

    public static void main(String[] args) {
        timeGoesOn();
        passingASensor();
        waitingOnASensor();
        joiningOnASensor();
        byTheirNumbers();
        twoUnitsRead();
        latestFifty();
        wrongCalls();
        CHECK.end();
    }

    private static void reading(GuardedDrops drops, int i, int... due) {
        for (int what = 0; what < due.length; what++) {
            CHECK.due("reading(" + i + ", " + what + ")", drops.reading(i, what), due[what]);
        }
    }

    private static void end(GuardedDrops drops, int count) {
        CHECK.refused("no reading " + count, drops, IndexOutOfBoundsException.class, () -> drops.reading(count, 0));
    }

    private static void timeGoesOn() {
        GuardedDrops drops = Check.grid("4.......");
        CHECK.due("no step", drops.run(0), 0);
        CHECK.due("time", drops.time(), 0);
        CHECK.due("100 steps", drops.run(100), 0);
        CHECK.due("time", drops.time(), 100);
        drops.dispense(0);
        drops.send(0, 5, 0);
        CHECK.due("calls take no time", drops.time(), 100);
        CHECK.due("no step", drops.run(0), 0);
        CHECK.due("it has not moved", drops.look(0, 0), 0);
        drops.run(2);
        CHECK.due("two moves", drops.look(0, 0), 2);
        CHECK.due("three to make", drops.look(0, 2), 3);
        drops.run(50);
        CHECK.due("it rests behind its route", drops.look(0, 0), 5);
        CHECK.due("time", drops.time(), 152);
    }

    private static void passingASensor() {
        GuardedDrops drops = Check.grid("4.33....");
        drops.run(7);
        drops.dispense(0);
        drops.send(0, 5, 0);
        CHECK.due("not there yet", drops.run(1), 0);
        end(drops, 0);
        CHECK.due("on two sensors, one after the other", drops.run(4), 2);
        reading(drops, 0, 0, 9, 2, 1);
        reading(drops, 1, 0, 10, 3, 1);
        end(drops, 2);
    }

    /** Droplet 0 waits on the sensor till droplet 1 has passed; only its coming is read. */
    private static void waitingOnASensor() {
        GuardedDrops drops = Check.grid("111.1111", "111.1111", "43......", "111.1111", "111.1111", "1115....");
        drops.dispense(0);
        drops.send(0, 1, 2);
        CHECK.due("its coming", drops.run(1), 1);
        drops.dispense(1);
        drops.send(1, 3, 0);
        CHECK.due("it waits first", drops.send(0, 7, 2), 11);
        CHECK.due("waiting and passing", drops.run(100), 0);
        CHECK.due("it has gone on", drops.look(0, 0), 23);
        drops.send(0, 1, 2);
        CHECK.due("coming again and resting", drops.run(100), 1);
        reading(drops, 0, 0, 1, 17, 1);
        reading(drops, 1, 0, 107, 17, 1);
        CHECK.due("resting", drops.run(100), 0);
        drops.send(0, 1, 2);
        CHECK.due("sent without moves", drops.run(100), 0);
        CHECK.due("a source is not read", drops.kind(0, 2), 4);
        end(drops, 2);
    }

    private static void joiningOnASensor() {
        GuardedDrops drops = Check.grid("4.3..5..");
        drops.dispense(0);
        drops.send(0, 2, 0);
        drops.run(2);
        drops.dispense(1);
        drops.join(1, 0);
        CHECK.due("neither is read", drops.run(3), 0);
        CHECK.due("they are joined", drops.look(0, 1), 2);
        end(drops, 1);
    }

    /** The one with the greater number is let out on, and comes to, the lesser cell. */
    private static void byTheirNumbers() {
        GuardedDrops drops = Check.grid(".3......", "5.......", "........", "........", "4.......", ".3......");
        drops.dispense(0);
        drops.dispense(1);
        CHECK.due("first", drops.send(0, 1, 5), 2);
        CHECK.due("second", drops.send(1, 1, 0), 2);
        CHECK.due("both at once", drops.run(5), 2);
        reading(drops, 0, 0, 2, 41, 1);
        reading(drops, 1, 1, 2, 1, 1);
        end(drops, 2);
    }

    private static void twoUnitsRead() {
        GuardedDrops drops = Check.grid("4...5.33");
        drops.dispense(0);
        drops.dispense(1);
        drops.join(0, 1);
        drops.run(4);
        drops.send(1, 6, 0);
        CHECK.due("read", drops.run(2), 1);
        reading(drops, 0, 1, 6, 6, 2);
        CHECK.due("halved beside a sensor", drops.halve(1, false), 2);
        CHECK.due("a half is on it, but has not moved", drops.look(3, 0), 7);
        CHECK.due("so it is not read", drops.run(3), 0);
        end(drops, 1);
    }

    private static void latestFifty() {
        GuardedDrops drops = Check.grid("43......", "1111111.", ".333333.");
        drops.dispense(0);
        drops.send(0, 7, 2);
        CHECK.due("the first", drops.run(9), 1);
        for (int round = 0; round < 10; round++) {
            boolean back = round % 2 == 0;
            CHECK.due("the way", drops.send(0, back ? 0 : 7, 2), 7);
            CHECK.due("read on it", drops.run(10), 6);
            int kept = Math.min(50, 1 + 6 * (round + 1));
            end(drops, kept);
            reading(drops, kept - 1, 0, 9 + 10 * round + 6, back ? 17 : 22, 1);
            if (kept < 50) {
                reading(drops, 0, 0, 1, 1, 1);
            }
        }
        for (int i = 0; i < 50; i++) {
            int nth = i + 10;
            int round = nth / 6;
            int step = nth % 6 + 1;
            reading(drops, i, 0, 9 + 10 * round + step, round % 2 == 0 ? 23 - step : 16 + step, 1);
        }
    }

    private static void wrongCalls() {
        GuardedDrops drops = Check.grid("43......");
        drops.dispense(0);
        drops.send(0, 1, 0);
        for (int bad : new int[] {-1, 101, Integer.MIN_VALUE, Integer.MAX_VALUE}) {
            CHECK.refused("run(" + bad + ")", drops, IllegalArgumentException.class, () -> drops.run(bad));
        }
        drops.run(1);
        for (int bad : new int[] {-1, 4, Integer.MIN_VALUE, Integer.MAX_VALUE}) {
            CHECK.refused("reading(0, " + bad + ")", drops, IndexOutOfBoundsException.class, () -> drops.reading(0, bad));
            CHECK.refused("reading(" + bad + ", 0)", drops, IndexOutOfBoundsException.class, () -> drops.reading(bad, 0));
        }
        CHECK.refused("reading(1, 0)", drops, IndexOutOfBoundsException.class, () -> drops.reading(1, 0));
    }
}
