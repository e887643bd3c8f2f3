/** Promise 6: halve. */
public final class HalveTest {
    private static final Check CHECK = new Check("HalveTest");

    public static void main(String[] args) {
        sideBySide();
        oneAboveTheOther();
        atTheEdges();
        besideDeadCells();
        nearAnother();
        nearOneThatWillCome();
        notFree();
        sixAtATime();
        sixtyInAll();
        wrongCalls();
        CHECK.end();
    }

    /** Droplet 1, of 2 units, rests where the 5 was drawn; droplet 0 is gone into it. */
    private static GuardedDrops withWhole(String... rows) {
        GuardedDrops drops = Check.grid(rows);
        drops.dispense(0);
        drops.dispense(1);
        drops.join(0, 1);
        drops.run(20);
        return drops;
    }

    private static void half(GuardedDrops drops, int d, int place) {
        int[] due = {place, 1, 0, -1, -1};
        for (int i = 0; i < due.length; i++) {
            CHECK.due("a half: look(" + d + ", " + i + ")", drops.look(d, i), due[i]);
        }
        long[] shares = {1, 1, 0, 0, 1};
        for (int i = 0; i < shares.length; i++) {
            CHECK.due("a half: share(" + d + ", " + i + ")", drops.share(d, i), shares[i]);
        }
    }

    private static void refused(String what, GuardedDrops drops, int d, boolean upright) {
        CHECK.refused(what, drops, IllegalStateException.class, () -> drops.halve(d, upright));
    }

    private static void sideBySide() {
        GuardedDrops drops = withWhole("........", "4...5...");
        CHECK.due("halve", drops.halve(1, false), 2);
        half(drops, 2, 11);
        half(drops, 3, 13);
        CHECK.due("droplets", drops.droplets(), 2);
        CHECK.due("units on the grid", drops.units(2), 2);
        CHECK.due("the whole is gone", drops.ahead(1, 0), -1);
        CHECK.refused("the whole is gone", drops, IllegalArgumentException.class, () -> drops.halve(1, false));
        CHECK.due("the next number", drops.dispense(0), 4);
        CHECK.due("a half may go", drops.send(3, 7, 1), 2);
    }

    private static void oneAboveTheOther() {
        GuardedDrops drops = withWhole("........", "4...5...");
        CHECK.due("halve", drops.halve(1, true), 2);
        half(drops, 2, 4);
        half(drops, 3, 20);
    }

    private static void atTheEdges() {
        GuardedDrops corner = withWhole("5...4...");
        refused("left of the grid", corner, 1, false);
        refused("above the grid", corner, 1, true);
        GuardedDrops right = withWhole("........", "....4..5");
        refused("right of the grid", right, 1, false);
        CHECK.due("but upright", right.halve(1, true), 2);
        half(right, 2, 7);
        half(right, 3, 23);
        GuardedDrops below = withWhole("", "", "", "", "", "", "", "4...5...");
        refused("below the grid", below, 1, true);
        CHECK.due("but side by side", below.halve(1, false), 2);
        half(below, 2, 59);
        half(below, 3, 61);
    }

    private static void besideDeadCells() {
        GuardedDrops left = withWhole("4.......", "...15...");
        refused("dead on the left", left, 1, false);
        CHECK.due("but upright", left.halve(1, true), 2);
        GuardedDrops right = withWhole("4.......", "....51..");
        refused("dead on the right", right, 1, false);
        GuardedDrops above = withWhole("4...1...", "....5...");
        refused("dead above", above, 1, true);
        CHECK.due("but side by side", above.halve(1, false), 2);
        GuardedDrops below = withWhole("4.......", "....5...", "....1...");
        refused("dead below", below, 1, true);
    }

    private static void nearAnother() {
        GuardedDrops drops = withWhole("4.......", "....5..", "......6.");
        drops.dispense(2);
        refused("the right one near another", drops, 1, false);
        CHECK.due("but upright", drops.halve(1, true), 3);
        GuardedDrops left = withWhole("4.......", "....5...", "..6.....");
        left.dispense(2);
        refused("the left one near another", left, 1, false);
        GuardedDrops off = withWhole("4.......", "....5..6");
        off.dispense(2);
        CHECK.due("two cells off", off.halve(1, false), 3);
    }

    private static void nearOneThatWillCome() {
        GuardedDrops drops = withWhole("4.......", "....5...", "........", "........", "........", "6.......");
        drops.dispense(2);
        drops.send(2, 4, 3);
        CHECK.due("the other's way", drops.look(2, 2), 6);
        refused("the lower one near where another will rest", drops, 1, true);
        CHECK.due("but side by side", drops.halve(1, false), 3);
        GuardedDrops passing = withWhole("4.......", "....5..1", ".......1", ".......1", "......6.");
        passing.dispense(2);
        CHECK.due("past the right one's cell, to where it is clear of it", passing.send(2, 7, 0), 5);
        refused("the right one near where another will pass", passing, 1, false);
        CHECK.due("but upright", passing.halve(1, true), 3);
        GuardedDrops leaving = withWhole("4.....11", "....5..6", "......1.");
        leaving.dispense(2);
        CHECK.due("another comes by", leaving.send(2, 6, 1), 1);
        refused("the right one near where another will rest", leaving, 1, false);
        leaving.run(1);
        CHECK.due("it leaves again", leaving.send(2, 7, 1), 1);
        refused("the right one near another now", leaving, 1, false);
        leaving.run(1);
        CHECK.due("when it has left", leaving.halve(1, false), 3);
    }

    private static void notFree() {
        GuardedDrops drops = withWhole("4.......", "....5...");
        drops.send(1, 4, 4);
        refused("it has a route", drops, 1, true);
        drops.run(3);
        CHECK.due("behind its route", drops.halve(1, true), 2);
        half(drops, 2, 28);
        half(drops, 3, 44);
        refused("it has 1 unit", drops, 2, true);
    }

    private static void sixAtATime() {
        GuardedDrops drops = withWhole("4.......", "....5...", "........", "........", "6.6.6.62");
        for (int i = 0; i < 4; i++) {
            drops.dispense(2);
        }
        drops.dispense(0);
        CHECK.due("droplets", drops.droplets(), 6);
        refused("there are 6", drops, 1, false);
        drops.send(5, 7, 4);
        drops.run(1);
        drops.discard(5);
        CHECK.due("there are 5", drops.halve(1, false), 7);
        CHECK.due("and now 6", drops.droplets(), 6);
    }

    /** Lets out and throws away until so many droplets were made, then joins two more and has the second one halved. */
    private static GuardedDrops madeBefore(int made) {
        GuardedDrops drops = Check.grid("4.2.....", "........", "........", ".....5..");
        for (int d = 0; d < made; d++) {
            drops.dispense(0);
            drops.send(d, 2, 0);
            drops.run(2);
            drops.discard(d);
        }
        drops.dispense(0);
        drops.dispense(1);
        drops.join(made, made + 1);
        drops.run(20);
        return drops;
    }

    private static void sixtyInAll() {
        GuardedDrops drops = madeBefore(56);
        CHECK.due("there were 58", drops.halve(57, false), 58);
        half(drops, 58, 28);
        half(drops, 59, 30);
        GuardedDrops more = madeBefore(57);
        refused("there were 59", more, 58, false);
        CHECK.due("one more can be let out", more.dispense(0), 59);
        refused("there were 60", more, 58, false);
    }

    private static void wrongCalls() {
        GuardedDrops drops = withWhole("4.......", "....5...");
        for (int bad : new int[] {-1, 0, 2, Integer.MIN_VALUE, Integer.MAX_VALUE}) {
            CHECK.refused("no such droplet " + bad, drops, IllegalArgumentException.class, () -> drops.halve(bad, false));
        }
    }
}
