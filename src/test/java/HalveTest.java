/** Promise 6: halve. */
public final class HalveTest {
    private static final Check CHECK = new Check("HalveTest");

    public static void main(String[] args) {
        CHECK.sentence("A free droplet is halved, side by side", HalveTest::sideBySide);
        CHECK.sentence("or, if upright, one above the other", HalveTest::oneAboveTheOther);
        CHECK.sentence("Answers the number of the first new one; the second one has the next number.", HalveTest::numbers);
        CHECK.sentence("IllegalArgumentException: there is no such droplet", HalveTest::noSuchDroplet);
        CHECK.sentence("IllegalStateException: it is not free", HalveTest::notFree);
        CHECK.sentence("or has not 2 units", HalveTest::notTwoUnits);
        CHECK.sentence("one of the two cells is not there", HalveTest::beyondTheGrid);
        CHECK.sentence("one of the two cells is not there or dead", HalveTest::besideADeadCell);
        CHECK.sentence("one of the new ones and some other droplet (that is left) would not keep clear of each other from now on", HalveTest::nearOneThatRests);
        CHECK.sentence("one of the new ones and some other droplet (that is left) would not keep clear of each other from now on", HalveTest::nearOneThatWillRest);
        CHECK.sentence("one of the new ones and some other droplet (that is left) would not keep clear of each other from now on", HalveTest::nearOneThatWillPass);
        CHECK.sentence("one of the new ones and some other droplet (that is left) would not keep clear of each other from now on", HalveTest::nearOneThatLeaves);
        CHECK.sentence("one of the new ones and some other droplet (that is left) would not keep clear of each other from now on", HalveTest::nearAComer);
        CHECK.sentence("there are 6 droplets", HalveTest::sixDroplets);
        CHECK.sentence("or there were more than 58", HalveTest::moreThanFiftyEight);
        CHECK.end();
    }

    /** Droplet 1, of 2 units, rests where the 5 was drawn; droplet 0 is gone into it. */
    private static Recorded withWhole(String... rows) {
        Recorded drops = Recorded.grid(rows);
        drops.dispense(0);
        drops.dispense(1);
        drops.join(0, 1);
        drops.run(20);
        return drops;
    }

    private static void half(Recorded drops, int d, int place) {
        CHECK.looks("a half", drops, d, place, 1, 0, -1, -1);
        CHECK.shares("a half", drops, d, 1, 1, 0, 0, 1);
    }

    private static void refused(String what, Recorded drops, int d, boolean upright) {
        CHECK.refused(what, drops, IllegalStateException.class, () -> drops.halve(d, upright));
    }

    private static void sideBySide() {
        Recorded drops = withWhole("........", "4...5...");
        drops.halve(1, false);
        half(drops, 2, 11);
        half(drops, 3, 13);
        CHECK.due("droplets", drops.droplets(), 2);
        CHECK.due("units on the grid", drops.units(2), 2);
        CHECK.due("the whole is gone", drops.ahead(1, 0), -1);
        CHECK.due("a half may go", drops.send(3, 7, 1), 2);
        CHECK.due("they rest, and are read nowhere", drops.run(10), 0);
        CHECK.due("the other half rests", drops.look(2, 0), 11);
    }

    private static void oneAboveTheOther() {
        Recorded drops = withWhole("........", "4...5...");
        drops.halve(1, true);
        half(drops, 2, 4);
        half(drops, 3, 20);
    }

    private static void numbers() {
        Recorded drops = withWhole("4......6", "....5...");
        drops.dispense(0);
        CHECK.due("the first new one, the numbers of others being taken", drops.halve(1, false), 3);
        half(drops, 3, 11);
        half(drops, 4, 13);
        CHECK.due("the next number", drops.dispense(2), 5);
    }

    private static void noSuchDroplet() {
        Recorded drops = withWhole("4.......", "....5...");
        for (int bad : new int[] {-1, 2, 60, Integer.MIN_VALUE, Integer.MAX_VALUE}) {
            CHECK.refused("never there: " + bad, drops, IllegalArgumentException.class, () -> drops.halve(bad, false));
        }
        CHECK.refused("gone by joining", drops, IllegalArgumentException.class, () -> drops.halve(0, true));
        drops.halve(1, false);
        CHECK.refused("gone by halving", drops, IllegalArgumentException.class, () -> drops.halve(1, false));
    }

    private static void notFree() {
        Recorded drops = withWhole("4.......", "....5...");
        drops.send(1, 4, 4);
        for (int left = 3; left > 0; left--) {
            refused("it has a route", drops, 1, true);
            refused("it has a route", drops, 1, false);
            drops.run(1);
        }
        CHECK.due("its route is over", drops.halve(1, true), 2);
        half(drops, 2, 28);
        half(drops, 3, 44);
    }

    private static void notTwoUnits() {
        Recorded drops = Recorded.grid("4.......", "....5...");
        drops.dispense(1);
        refused("a fresh one", drops, 0, true);
        refused("a fresh one", drops, 0, false);
        Recorded later = withWhole("........", "4...5...");
        later.halve(1, false);
        refused("a half", later, 2, true);
        refused("the other half", later, 3, true);
    }

    private static void beyondTheGrid() {
        Recorded corner = withWhole("5...4...");
        refused("left of the grid", corner, 1, false);
        refused("above the grid", corner, 1, true);
        Recorded right = withWhole("........", "....4..5");
        refused("right of the grid, where the next row begins", right, 1, false);
        CHECK.due("but upright", right.halve(1, true), 2);
        Recorded left = withWhole("........", "5...4...");
        refused("left of the grid, where the last row ends", left, 1, false);
        CHECK.due("but upright", left.halve(1, true), 2);
        Recorded below = withWhole("", "", "", "", "", "", "", "4...5...");
        refused("below the grid", below, 1, true);
        CHECK.due("but side by side", below.halve(1, false), 2);
    }

    private static void besideADeadCell() {
        Recorded left = withWhole("4.......", "...15...");
        refused("dead on the left", left, 1, false);
        CHECK.due("but upright", left.halve(1, true), 2);
        Recorded right = withWhole("4.......", "....51..");
        refused("dead on the right", right, 1, false);
        CHECK.due("but upright", right.halve(1, true), 2);
        Recorded above = withWhole("4...1...", "....5...");
        refused("dead above", above, 1, true);
        CHECK.due("but side by side", above.halve(1, false), 2);
        Recorded below = withWhole("4.......", "....5...", "....1...");
        refused("dead below", below, 1, true);
        CHECK.due("but side by side", below.halve(1, false), 2);
        Recorded other = withWhole("4...2...", "...35.6.", "....7...");
        CHECK.due("onto a sink and a source", other.halve(1, true), 2);
    }

    private static void nearOneThatRests() {
        Recorded right = withWhole("4.......", "....5..", "......6.");
        right.dispense(2);
        refused("the right one near another", right, 1, false);
        CHECK.due("but upright", right.halve(1, true), 3);
        Recorded left = withWhole("4.......", "....5...", "..6.....");
        left.dispense(2);
        refused("the left one near another", left, 1, false);
        CHECK.due("but upright", left.halve(1, true), 3);
        Recorded above = withWhole("4.......", "........", ".....6..", "........", "....5...");
        above.dispense(2);
        refused("the upper one near another", above, 1, true);
        CHECK.due("but side by side", above.halve(1, false), 3);
        Recorded below = withWhole("4.......", "........", "....5...", "........", "...6....");
        below.dispense(2);
        refused("the lower one near another", below, 1, true);
        CHECK.due("but side by side", below.halve(1, false), 3);
        Recorded off = withWhole("4.......", "....5..6");
        off.dispense(2);
        CHECK.due("two cells off", off.halve(1, false), 3);
    }

    private static void nearOneThatWillRest() {
        Recorded drops = withWhole("4.......", "....5...", "........", "........", "........", "6.......");
        drops.dispense(2);
        CHECK.due("the other's way", drops.send(2, 4, 3), 6);
        refused("the lower one near where another will rest", drops, 1, true);
        CHECK.due("but side by side", drops.halve(1, false), 3);
    }

    /** The other goes up column 6, where it is near cell 13, to where it is two cells off. */
    private static void nearOneThatWillPass() {
        Recorded drops = withWhole("4.......", "....5..1", ".......1", ".......1", "......6.");
        drops.dispense(2);
        CHECK.due("the other's way", drops.send(2, 7, 0), 5);
        Recorded later = drops.again();
        refused("the right one near where another will pass", drops, 1, false);
        CHECK.due("but upright", drops.halve(1, true), 3);
        later.run(5);
        CHECK.due("when it has gone by", later.halve(1, false), 3);
    }

    private static void nearOneThatLeaves() {
        Recorded drops = withWhole("4.....11", "....5..6", "......1.");
        drops.dispense(2);
        drops.send(2, 6, 1);
        drops.run(1);
        drops.send(2, 7, 1);
        refused("the right one near another, which leaves", drops, 1, false);
        drops.run(1);
        CHECK.due("when it has left", drops.halve(1, false), 3);
    }

    /** Droplets 2 and 3 are joined along row 4; the whole is on cell 20. */
    private static void nearAComer() {
        Recorded drops = withWhole("4.......", "........", "....5...", "........", "6......7");
        drops.dispense(2);
        drops.dispense(3);
        CHECK.due("the comer's way", drops.join(2, 3), 7);
        refused("the lower one near where the comer will pass", drops, 1, true);
        drops.run(5);
        CHECK.due("the comer is on its way", drops.look(2, 0), 37);
        refused("the lower one near the comer", drops, 1, true);
        drops.run(1);
        CHECK.due("the comer has gone by", drops.halve(1, true), 4);
        drops.run(1);
        CHECK.due("joined", drops.look(3, 1), 2);
    }

    private static void sixDroplets() {
        Recorded drops = withWhole("4.......", "....5...", "........", "........", "6.6.6.62");
        for (int i = 0; i < 4; i++) {
            drops.dispense(2);
        }
        drops.dispense(0);
        CHECK.due("droplets", drops.droplets(), 6);
        refused("there are 6", drops, 1, false);
        drops.send(5, 7, 4);
        drops.run(1);
        drops.discard(5);
        CHECK.due("there are 5", drops.halve(1, false), 7);
        CHECK.due("and now 6", drops.droplets(), 6);
    }

    /** Lets out and throws away until so many droplets were made, then joins two more. */
    private static Recorded madeBefore(int made) {
        Recorded drops = Recorded.grid("4.2.....", "........", "........", ".....5..");
        for (int d = 0; d < made; d++) {
            drops.dispense(0);
            drops.send(d, 2, 0);
            drops.run(2);
            drops.discard(d);
        }
        drops.dispense(0);
        drops.dispense(1);
        drops.join(made, made + 1);
        drops.run(20);
        return drops;
    }

    private static void moreThanFiftyEight() {
        Recorded drops = madeBefore(56);
        CHECK.due("there were 58", drops.halve(57, false), 58);
        half(drops, 58, 28);
        half(drops, 59, 30);
        Recorded more = madeBefore(57);
        refused("there were 59", more, 58, false);
        CHECK.due("one more can be let out", more.dispense(0), 59);
        refused("there were 60", more, 58, false);
    }
}
