import java.util.NoSuchElementException;

/** Promise 4: send; what a way is stands in WaysTest. */
public final class SendTest {
    private static final Check CHECK = new Check("SendTest");

    public static void main(String[] args) {
        CHECK.sentence("A free droplet gets the shortest way to cell x, y as its route", SendTest::getsARoute);
        CHECK.sentence("A free droplet gets the shortest way to cell x, y as its route", SendTest::twoUnitsToo);
        CHECK.sentence("(none, if that has no moves)", SendTest::noMoves);
        CHECK.sentence("Answers how many moves that has.", SendTest::answersTheMoves);
        CHECK.sentence("IllegalArgumentException: there is no such droplet", SendTest::noSuchDroplet);
        CHECK.sentence("IllegalArgumentException: there is no such droplet or cell", SendTest::noSuchCell);
        CHECK.sentence("IllegalStateException: it is not free", SendTest::hasARoute);
        CHECK.sentence("IllegalStateException: it is not free", SendTest::isAwaited);
        CHECK.sentence("NoSuchElementException: there is no way", SendTest::noWay);
        CHECK.end();
    }

    private static void getsARoute() {
        Recorded drops = Recorded.grid("4...5...");
        drops.dispense(0);
        drops.dispense(1);
        drops.send(0, 1, 2);
        CHECK.looks("on its way", drops, 0, 0, 1, 3, -1, -1);
        CHECK.path("on its way", drops, 0, 0, 1, 9, 17);
        CHECK.looks("the other", drops, 1, 4, 1, 0, -1, -1);
        drops.run(3);
        CHECK.looks("there", drops, 0, 17, 1, 0, -1, -1);
        CHECK.due("sent back, over the route before", drops.send(0, 0, 2), 1);
        CHECK.path("sent back", drops, 0, 17, 16);
    }

    private static void twoUnitsToo() {
        Recorded drops = Recorded.grid("4...5...");
        drops.dispense(0);
        drops.dispense(1);
        drops.join(0, 1);
        drops.run(4);
        CHECK.due("a droplet of 2 units", drops.send(1, 7, 7), 10);
        drops.run(10);
        CHECK.looks("there", drops, 1, 63, 2, 0, -1, -1);
    }

    private static void noMoves() {
        Recorded drops = Recorded.grid("4..5....");
        drops.dispense(0);
        drops.dispense(1);
        CHECK.due("to its own cell", drops.send(0, 0, 0), 0);
        CHECK.looks("no route", drops, 0, 0, 1, 0, -1, -1);
        CHECK.due("again, as it is free", drops.send(0, 0, 0), 0);
        CHECK.due("another may join it", drops.join(1, 0), 3);
        drops.run(3);
        CHECK.due("it is free again", drops.send(0, 1, 0), 1);
        drops.run(1);
        CHECK.due("behind its route it is free", drops.send(0, 0, 0), 1);
    }

    private static void answersTheMoves() {
        Recorded drops = Recorded.grid("4.......");
        drops.dispense(0);
        int[][] goals = {{0, 1, 1}, {0, 0, 1}, {7, 7, 14}, {0, 0, 14}, {7, 0, 7}, {7, 0, 0}};
        for (int[] goal : goals) {
            CHECK.due("send to " + goal[0] + ", " + goal[1], drops.send(0, goal[0], goal[1]), goal[2]);
            CHECK.due("as look tells it", drops.look(0, 2), goal[2]);
            drops.run(20);
        }
    }

    private static void noSuchDroplet() {
        Recorded drops = Recorded.grid("4...5..2");
        drops.dispense(0);
        drops.dispense(1);
        for (int bad : new int[] {-1, 2, 60, Integer.MIN_VALUE, Integer.MAX_VALUE}) {
            CHECK.refused("never there: " + bad, drops, IllegalArgumentException.class, () -> drops.send(bad, 0, 0));
        }
        drops.join(0, 1);
        drops.run(4);
        CHECK.refused("gone by joining", drops, IllegalArgumentException.class, () -> drops.send(0, 0, 0));
        drops.send(1, 7, 0);
        drops.run(3);
        drops.discard(1);
        CHECK.refused("thrown away", drops, IllegalArgumentException.class, () -> drops.send(1, 7, 0));
    }

    private static void noSuchCell() {
        Recorded drops = Recorded.grid("4.......");
        drops.dispense(0);
        for (int bad : new int[] {-1, 8, Integer.MIN_VALUE, Integer.MAX_VALUE}) {
            CHECK.refused("no such x " + bad, drops, IllegalArgumentException.class, () -> drops.send(0, bad, 0));
            CHECK.refused("no such y " + bad, drops, IllegalArgumentException.class, () -> drops.send(0, 0, bad));
            CHECK.refused("neither " + bad, drops, IllegalArgumentException.class, () -> drops.send(0, bad, bad));
        }
    }

    private static void hasARoute() {
        Recorded drops = Recorded.grid("4...5...");
        drops.dispense(0);
        drops.dispense(1);
        drops.send(0, 0, 3);
        for (int left = 3; left > 0; left--) {
            CHECK.due("moves left", drops.look(0, 2), left);
            CHECK.refused("to its goal", drops, IllegalStateException.class, () -> drops.send(0, 0, 3));
            CHECK.refused("to another cell", drops, IllegalStateException.class, () -> drops.send(0, 0, 0));
            drops.run(1);
        }
        CHECK.due("its route is over", drops.send(0, 0, 0), 3);
    }

    private static void isAwaited() {
        Recorded drops = Recorded.grid("4...5...");
        drops.dispense(0);
        drops.dispense(1);
        drops.join(0, 1);
        CHECK.refused("a comer", drops, IllegalStateException.class, () -> drops.send(0, 0, 0));
        CHECK.refused("an awaited one", drops, IllegalStateException.class, () -> drops.send(1, 7, 7));
        CHECK.refused("an awaited one, to its own cell", drops, IllegalStateException.class, () -> drops.send(1, 4, 0));
        drops.run(4);
        CHECK.due("when they are joined", drops.send(1, 0, 0), 4);
    }

    private static void noWay() {
        Recorded drops = Recorded.grid("4..5....", "..1.....", "111.....");
        drops.dispense(0);
        drops.dispense(1);
        CHECK.refused("to a dead cell", drops, NoSuchElementException.class, () -> drops.send(0, 2, 1));
        CHECK.refused("past one that rests", drops, NoSuchElementException.class, () -> drops.send(0, 5, 0));
        CHECK.refused("to one that rests", drops, NoSuchElementException.class, () -> drops.send(0, 3, 0));
        CHECK.refused("near one that rests", drops, NoSuchElementException.class, () -> drops.send(0, 2, 0));
        drops.send(1, 7, 7);
        CHECK.due("once the other has been sent away", drops.send(0, 2, 0), 2);
    }
}
