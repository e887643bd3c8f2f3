/** Promises 7 and 15: discard, units. */
public final class DiscardTest {
    private static final Check CHECK = new Check("DiscardTest");

    public static void main(String[] args) {
        oneUnit();
        twoUnits();
        notOnASink();
        notFree();
        wrongCalls();
        CHECK.end();
    }

    private static void units(GuardedDrops drops, int letOut, int thrownAway, int onGrid) {
        CHECK.due("units let out", drops.units(0), letOut);
        CHECK.due("units thrown away", drops.units(1), thrownAway);
        for (int what : new int[] {2, 3, -1, Integer.MIN_VALUE, Integer.MAX_VALUE}) {
            CHECK.due("units on the grid, by " + what, drops.units(what), onGrid);
        }
    }

    private static void oneUnit() {
        GuardedDrops drops = Check.grid("4.2....5");
        drops.dispense(0);
        drops.dispense(1);
        drops.send(0, 2, 0);
        drops.run(2);
        units(drops, 2, 0, 2);
        CHECK.due("discard", drops.discard(0), 1);
        units(drops, 2, 1, 1);
        CHECK.due("droplets", drops.droplets(), 1);
        CHECK.due("it is gone", drops.ahead(0, 0), -1);
        CHECK.due("the other is there", drops.look(1, 0), 7);
        CHECK.refused("it is gone", drops, IllegalArgumentException.class, () -> drops.discard(0));
        CHECK.due("its number is not used again", drops.dispense(0), 2);
        CHECK.due("nobody is in the way now", drops.send(2, 5, 0), 5);
    }

    private static void twoUnits() {
        GuardedDrops drops = Check.grid("4.2..5..");
        drops.dispense(0);
        drops.dispense(1);
        drops.join(0, 1);
        drops.run(5);
        units(drops, 2, 0, 2);
        drops.send(1, 2, 0);
        drops.run(3);
        CHECK.due("discard", drops.discard(1), 2);
        units(drops, 2, 2, 0);
        CHECK.due("droplets", drops.droplets(), 0);
    }

    private static void notOnASink() {
        GuardedDrops drops = Check.grid("4.23....");
        drops.dispense(0);
        CHECK.refused("on a source", drops, IllegalStateException.class, () -> drops.discard(0));
        drops.send(0, 1, 0);
        drops.run(1);
        CHECK.refused("on a plain cell", drops, IllegalStateException.class, () -> drops.discard(0));
        drops.send(0, 3, 0);
        drops.run(2);
        CHECK.refused("on a sensor", drops, IllegalStateException.class, () -> drops.discard(0));
    }

    private static void notFree() {
        GuardedDrops drops = Check.grid("4.2..5..");
        drops.dispense(0);
        drops.send(0, 3, 0);
        drops.run(2);
        CHECK.due("it passes a sink", drops.look(0, 0), 2);
        CHECK.refused("it has a route", drops, IllegalStateException.class, () -> drops.discard(0));
        drops.run(1);
        drops.send(0, 2, 0);
        drops.run(1);
        drops.dispense(1);
        drops.join(1, 0);
        CHECK.refused("it is awaited", drops, IllegalStateException.class, () -> drops.discard(0));
        drops.run(3);
        CHECK.due("joined", drops.discard(0), 2);
    }

    private static void wrongCalls() {
        GuardedDrops drops = Check.grid("4.2..5..");
        drops.dispense(0);
        for (int bad : new int[] {-1, 1, Integer.MIN_VALUE, Integer.MAX_VALUE}) {
            CHECK.refused("no such droplet " + bad, drops, IllegalArgumentException.class, () -> drops.discard(bad));
        }
    }
}
