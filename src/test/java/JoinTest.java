import java.util.NoSuchElementException;

/** Promise 5: join; what a way into another is stands in WaysTest. */
public final class JoinTest {
    private static final Check CHECK = new Check("JoinTest");

    public static void main(String[] args) {
        CHECK.sentence("A free droplet gets the shortest way into another free one as its route.", JoinTest::getsARoute);
        CHECK.sentence("A free droplet gets the shortest way into another free one as its route.", JoinTest::twoPairsAtOnce);
        CHECK.sentence("Answers how many moves that has.", JoinTest::answersTheMoves);
        CHECK.sentence("IllegalArgumentException: there is no such droplet", JoinTest::noSuchDroplet);
        CHECK.sentence("or they are the same", JoinTest::theSame);
        CHECK.sentence("IllegalStateException: one of them is not free", JoinTest::oneHasARoute);
        CHECK.sentence("IllegalStateException: one of them is not free", JoinTest::oneIsAwaited);
        CHECK.sentence("or has not 1 unit", JoinTest::oneHasTwoUnits);
        CHECK.sentence("NoSuchElementException: there is no way", JoinTest::noWay);
        CHECK.end();
    }

    private static void getsARoute() {
        Recorded drops = Recorded.grid("4...5...");
        drops.dispense(0);
        drops.dispense(1);
        drops.join(0, 1);
        CHECK.looks("the comer", drops, 0, 0, 1, 4, 1, -1);
        CHECK.looks("the awaited one", drops, 1, 4, 1, 0, -1, 0);
        CHECK.due("nothing is joined yet", drops.droplets(), 2);
        drops.run(3);
        CHECK.looks("the comer, close by", drops, 0, 3, 1, 1, 1, -1);
        drops.run(1);
        CHECK.due("one is left", drops.droplets(), 1);
        CHECK.looks("the joined one", drops, 1, 4, 2, 0, -1, -1);
        CHECK.due("units on the grid", drops.units(2), 2);
    }

    private static void twoPairsAtOnce() {
        Recorded drops = Recorded.grid("4...5...", "........", "........", "6...7...");
        for (int liquid = 0; liquid < 4; liquid++) {
            drops.dispense(liquid);
        }
        CHECK.due("first pair", drops.join(1, 0), 4);
        CHECK.due("second pair", drops.join(2, 3), 4);
        drops.run(4);
        CHECK.due("two are left", drops.droplets(), 2);
        CHECK.looks("first pair", drops, 0, 0, 2, 0, -1, -1);
        CHECK.shares("first pair", drops, 0, 1, 1, 0, 0, 1);
        CHECK.looks("second pair", drops, 3, 28, 2, 0, -1, -1);
        CHECK.shares("second pair", drops, 3, 0, 0, 1, 1, 1);
    }

    private static void answersTheMoves() {
        for (int x = 2; x < 8; x++) {
            Recorded drops = new Recorded();
            drops.cell(0, 3, 4);
            drops.cell(x, 3, 5);
            drops.dispense(0);
            drops.dispense(1);
            CHECK.due("so far off " + x, drops.join(1, 0), x);
            CHECK.due("as look tells it", drops.look(1, 2), x);
            drops.run(x - 1);
            CHECK.due("a move before", drops.droplets(), 2);
            drops.run(1);
            CHECK.due("joined", drops.droplets(), 1);
        }
    }

    private static void noSuchDroplet() {
        Recorded drops = Recorded.grid("4..4..4.");
        for (int i = 0; i < 3; i++) {
            drops.dispense(0);
        }
        for (int bad : new int[] {-1, 3, 60, Integer.MIN_VALUE, Integer.MAX_VALUE}) {
            CHECK.refused("no comer " + bad, drops, IllegalArgumentException.class, () -> drops.join(bad, 0));
            CHECK.refused("none to await it " + bad, drops, IllegalArgumentException.class, () -> drops.join(0, bad));
        }
        drops.join(0, 1);
        drops.run(3);
        CHECK.refused("a comer that is gone", drops, IllegalArgumentException.class, () -> drops.join(0, 2));
        CHECK.refused("into one that is gone", drops, IllegalArgumentException.class, () -> drops.join(2, 0));
    }

    private static void theSame() {
        Recorded drops = Recorded.grid("4..5....");
        drops.dispense(0);
        drops.dispense(1);
        CHECK.refused("0 into 0", drops, IllegalArgumentException.class, () -> drops.join(0, 0));
        CHECK.refused("1 into 1", drops, IllegalArgumentException.class, () -> drops.join(1, 1));
        CHECK.refused("none into none", drops, IllegalArgumentException.class, () -> drops.join(-1, -1));
    }

    private static void oneHasARoute() {
        Recorded drops = Recorded.grid("4..5....");
        drops.dispense(0);
        drops.dispense(1);
        drops.send(1, 3, 2);
        for (int left = 2; left > 0; left--) {
            CHECK.due("moves left", drops.look(1, 2), left);
            CHECK.refused("one with a route", drops, IllegalStateException.class, () -> drops.join(1, 0));
            CHECK.refused("into one with a route", drops, IllegalStateException.class, () -> drops.join(0, 1));
            drops.run(1);
        }
        CHECK.due("its route is over", drops.join(1, 0), 5);
    }

    private static void oneIsAwaited() {
        Recorded drops = Recorded.grid("4.4.4...", "........", "4.4.....");
        for (int i = 0; i < 5; i++) {
            drops.dispense(0);
        }
        drops.join(0, 1);
        CHECK.refused("a comer again", drops, IllegalStateException.class, () -> drops.join(0, 2));
        CHECK.refused("a comer into the same again", drops, IllegalStateException.class, () -> drops.join(0, 1));
        CHECK.refused("into a comer", drops, IllegalStateException.class, () -> drops.join(3, 0));
        CHECK.refused("an awaited one as comer", drops, IllegalStateException.class, () -> drops.join(1, 2));
        CHECK.refused("an awaited one into its comer", drops, IllegalStateException.class, () -> drops.join(1, 0));
        CHECK.refused("into an awaited one", drops, IllegalStateException.class, () -> drops.join(2, 1));
        CHECK.due("others are free", drops.join(3, 4), 2);
    }

    private static void oneHasTwoUnits() {
        Recorded drops = Recorded.grid("4.4..4..", "........", "........", "..4..4..");
        for (int i = 0; i < 5; i++) {
            drops.dispense(0);
        }
        drops.join(0, 1);
        drops.run(2);
        CHECK.refused("a comer of 2 units", drops, IllegalStateException.class, () -> drops.join(1, 2));
        CHECK.refused("into one of 2 units", drops, IllegalStateException.class, () -> drops.join(2, 1));
        drops.join(3, 4);
        drops.run(3);
        CHECK.refused("both of 2 units", drops, IllegalStateException.class, () -> drops.join(1, 4));
    }

    private static void noWay() {
        Recorded dead = Recorded.grid("4.1.5...", "..1.....", "111.....");
        dead.dispense(0);
        dead.dispense(1);
        CHECK.refused("dead cells between", dead, NoSuchElementException.class, () -> dead.join(0, 1));
        CHECK.refused("from the other side", dead, NoSuchElementException.class, () -> dead.join(1, 0));
        Recorded third = Recorded.grid("4..6..5.", "11111111");
        third.dispense(0);
        third.dispense(1);
        third.dispense(2);
        CHECK.refused("a third between", third, NoSuchElementException.class, () -> third.join(0, 1));
        CHECK.due("into the third", third.join(0, 2), 3);
        CHECK.refused("a third between, which awaits another", third, IllegalStateException.class, () -> third.join(1, 0));
    }
}
