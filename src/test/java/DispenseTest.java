import java.util.NoSuchElementException;

/** Promise 3: dispense. */
public final class DispenseTest {
    private static final Check CHECK = new Check("DispenseTest");

    public static void main(String[] args) {
        freshDroplet();
        leastClearSource();
        notWhereOneWillPass();
        whereOneIsGoneBefore();
        wrongLiquid();
        sixAtATime();
        sixtyInAll();
        CHECK.end();
    }

    private static void freshDroplet() {
        GuardedDrops drops = Check.grid("4..5..6.", "........", "........", "7.......");
        for (int liquid = 3; liquid >= 0; liquid--) {
            int d = 3 - liquid;
            CHECK.due("dispense(" + liquid + ")", drops.dispense(liquid), d);
            CHECK.due("its cell", drops.look(d, 0), liquid == 3 ? 24 : 3 * liquid);
            CHECK.due("its units", drops.look(d, 1), 1);
            CHECK.due("its moves", drops.look(d, 2), 0);
            CHECK.due("what it leads into", drops.look(d, 3), -1);
            CHECK.due("what it awaits", drops.look(d, 4), -1);
            for (int i = 0; i < 4; i++) {
                CHECK.due("its share of " + i, drops.share(d, i), i == liquid ? 1 : 0);
            }
            CHECK.due("its exponent", drops.share(d, 4), 0);
            CHECK.due("let out", drops.units(0), d + 1);
            CHECK.due("on the grid", drops.units(2), d + 1);
            CHECK.due("droplets", drops.droplets(), d + 1);
        }
    }

    private static void leastClearSource() {
        GuardedDrops drops = Check.grid("........", ".4......", "..4..4..", "...4....");
        drops.dispense(0);
        CHECK.due("the least source", drops.look(0, 0), 9);
        drops.dispense(0);
        CHECK.due("not the least, which is taken, nor the next, which is near", drops.look(1, 0), 21);
        drops.dispense(0);
        CHECK.due("two cells off on both sides is clear enough", drops.look(2, 0), 27);
        CHECK.refused("no source left", drops, NoSuchElementException.class, () -> drops.dispense(0));
    }

    private static void notWhereOneWillPass() {
        GuardedDrops drops = Check.grid("4.......", "1111.111", "...5...5");
        drops.dispense(0);
        drops.send(0, 4, 2);
        CHECK.due("the way to the gap", drops.look(0, 2), 6);
        drops.dispense(1);
        CHECK.due("not the source that will be near", drops.look(1, 0), 23);
        drops.run(6);
        CHECK.refused("nor when it is near", drops, NoSuchElementException.class, () -> drops.dispense(1));
        drops.send(0, 4, 0);
        CHECK.refused("nor while it goes away", drops, NoSuchElementException.class, () -> drops.dispense(1));
        drops.run(1);
        CHECK.refused("nor as long as it is near now", drops, NoSuchElementException.class, () -> drops.dispense(1));
        drops.run(1);
        CHECK.due("but when it is gone from there", drops.dispense(1), 2);
        CHECK.due("on the source with the lesser number", drops.look(2, 0), 19);
    }

    /** The comer never is on the awaited one's cell for others, but its cells before count. */
    private static void whereOneIsGoneBefore() {
        GuardedDrops drops = Check.grid("4....5..", "........", "..6.....", "........", ".....6..");
        drops.dispense(0);
        drops.dispense(1);
        CHECK.due("into the other", drops.join(0, 1), 5);
        CHECK.due("the comer passes two rows off", drops.dispense(2), 2);
        CHECK.due("so the least source serves", drops.look(2, 0), 18);
        GuardedDrops closer = Check.grid("4....5..", "..6.....", "........", "........", "......6.");
        closer.dispense(0);
        closer.dispense(1);
        closer.join(0, 1);
        closer.dispense(2);
        CHECK.due("the comer passes one row off", closer.look(2, 0), 38);
    }

    private static void wrongLiquid() {
        GuardedDrops drops = Check.grid("4567....");
        for (int liquid : new int[] {-1, 4, Integer.MIN_VALUE, Integer.MAX_VALUE}) {
            CHECK.refused("dispense(" + liquid + ")", drops, IllegalArgumentException.class, () -> drops.dispense(liquid));
        }
        GuardedDrops other = Check.grid("4.....57");
        CHECK.refused("no source of it at all", other, NoSuchElementException.class, () -> other.dispense(2));
        CHECK.due("the number was not used up", other.dispense(0), 0);
    }

    private static void sixAtATime() {
        GuardedDrops drops = Check.grid("4.4.4.4.", "........", "4.4.4...", "......6.");
        for (int d = 0; d < 6; d++) {
            CHECK.due("dispense", drops.dispense(0), d);
        }
        CHECK.refused("a seventh", drops, IllegalStateException.class, () -> drops.dispense(0));
        CHECK.refused("a seventh without a source", drops, NoSuchElementException.class, () -> drops.dispense(3));
        CHECK.refused("a seventh of no liquid", drops, IllegalArgumentException.class, () -> drops.dispense(4));
    }

    private static void sixtyInAll() {
        GuardedDrops drops = Check.grid("4.2.....");
        for (int d = 0; d < 60; d++) {
            CHECK.due("dispense", drops.dispense(0), d);
            if (d < 59) {
                drops.send(d, 2, 0);
                drops.run(2);
                drops.discard(d);
            }
        }
        CHECK.refused("a sixty-first with no clear source", drops, NoSuchElementException.class, () -> drops.dispense(0));
        drops.send(59, 2, 0);
        drops.run(2);
        CHECK.refused("a sixty-first", drops, IllegalStateException.class, () -> drops.dispense(0));
        drops.discard(59);
        CHECK.refused("a sixty-first with none there", drops, IllegalStateException.class, () -> drops.dispense(0));
        CHECK.due("let out", drops.units(0), 60);
    }
}
