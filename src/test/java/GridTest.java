/** Promises 1, 2 and 16: a new object, cell, kind. */
public final class GridTest {
    private static final Check CHECK = new Check("GridTest");

    public static void main(String[] args) {
        newObject();
        everyKindOnEveryCell();
        refusedCells();
        onlyWithoutDroplets();
        deadNoMore();
        ownState();
        CHECK.end();
    }

    private static void newObject() {
        GuardedDrops drops = new GuardedDrops();
        CHECK.due("NONE", GuardedDrops.NONE, -1);
        CHECK.due("time of a new object", drops.time(), 0);
        CHECK.due("droplets of a new object", drops.droplets(), 0);
        for (int what = -1; what < 4; what++) {
            CHECK.due("units of a new object", drops.units(what), 0);
        }
        for (int c = 0; c < 64; c++) {
            CHECK.due("kind in a new object", drops.kind(c % 8, c / 8), 0);
        }
        CHECK.due("ahead in a new object", drops.ahead(0, 0), -1);
        CHECK.refused("look in a new object", drops, IllegalArgumentException.class, () -> drops.look(0, 0));
        CHECK.refused("share in a new object", drops, IllegalArgumentException.class, () -> drops.share(0, 0));
        CHECK.refused("reading in a new object", drops, IndexOutOfBoundsException.class, () -> drops.reading(0, 0));
    }

    private static void everyKindOnEveryCell() {
        GuardedDrops drops = new GuardedDrops();
        for (int shift = 0; shift < 8; shift++) {
            for (int c = 0; c < 64; c++) {
                CHECK.due("cell", drops.cell(c % 8, c / 8, (c / 8 + c + shift) % 8), true);
            }
            for (int c = 0; c < 64; c++) {
                CHECK.due("kind at cell " + c, drops.kind(c % 8, c / 8), (c / 8 + c + shift) % 8);
            }
        }
    }

    private static void refusedCells() {
        GuardedDrops drops = Check.grid("4......2");
        String before = Check.seen(drops);
        int[] off = {-1, 8, Integer.MIN_VALUE, Integer.MAX_VALUE};
        for (int bad : off) {
            CHECK.due("cell with x " + bad, drops.cell(bad, 0, 1), false);
            CHECK.due("cell with y " + bad, drops.cell(0, bad, 1), false);
            CHECK.due("cell with kind " + bad, drops.cell(0, 0, bad), false);
            CHECK.due("kind with x " + bad, drops.kind(bad, 0), -1);
            CHECK.due("kind with y " + bad, drops.kind(7, bad), -1);
        }
        CHECK.due("refused cells change nothing", Check.seen(drops), before);
    }

    private static void onlyWithoutDroplets() {
        GuardedDrops drops = Check.grid("4.2.....");
        drops.dispense(0);
        CHECK.due("cell with a droplet there", drops.cell(5, 5, 3), false);
        CHECK.due("kind is as before", drops.kind(5, 5), 0);
        drops.send(0, 2, 0);
        drops.run(2);
        CHECK.due("cell with a droplet at the sink", drops.cell(5, 5, 3), false);
        drops.discard(0);
        CHECK.due("cell when all droplets are gone", drops.cell(5, 5, 3), true);
        CHECK.due("kind has changed", drops.kind(5, 5), 3);
    }

    private static void deadNoMore() {
        GuardedDrops drops = Check.grid("41......", "1.......");
        drops.cell(1, 0, 3);
        drops.dispense(0);
        CHECK.due("a way over a cell that was dead", drops.send(0, 1, 0), 1);
        CHECK.due("the new kind reads", drops.run(1), 1);
        CHECK.refused("the new kind is no sink", drops, IllegalStateException.class, () -> drops.discard(0));
        CHECK.refused("a way onto a cell that is dead", drops, java.util.NoSuchElementException.class, () -> drops.send(0, 0, 1));
    }

    private static void ownState() {
        GuardedDrops one = Check.grid("4.......");
        GuardedDrops two = new GuardedDrops();
        one.dispense(0);
        CHECK.due("another object has no droplets", two.droplets(), 0);
        CHECK.due("another object has its own cells", two.kind(0, 0), 0);
    }
}
