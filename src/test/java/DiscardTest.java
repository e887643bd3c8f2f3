/** Promise 7: discard. */
public final class DiscardTest {
    private static final Check CHECK = new Check("DiscardTest");

    public static void main(String[] args) {
        CHECK.sentence("A free droplet on a sink is gone.", DiscardTest::isGone);
        CHECK.sentence("A free droplet on a sink is gone.", DiscardTest::leavesRoom);
        CHECK.sentence("Answers its units.", DiscardTest::oneUnit);
        CHECK.sentence("Answers its units.", DiscardTest::twoUnits);
        CHECK.sentence("IllegalArgumentException: there is no such droplet", DiscardTest::noSuchDroplet);
        CHECK.sentence("IllegalStateException: it is not free", DiscardTest::hasARoute);
        CHECK.sentence("IllegalStateException: it is not free", DiscardTest::isAComer);
        CHECK.sentence("IllegalStateException: it is not free", DiscardTest::isAwaited);
        CHECK.sentence("or not on a sink", DiscardTest::notOnASink);
        CHECK.end();
    }

    private static void isGone() {
        Recorded drops = Recorded.grid("4.2....5");
        drops.dispense(0);
        drops.dispense(1);
        drops.send(0, 2, 0);
        drops.run(2);
        drops.discard(0);
        CHECK.due("droplets", drops.droplets(), 1);
        CHECK.due("ahead", drops.ahead(0, 0), -1);
        CHECK.refused("look", drops, IllegalArgumentException.class, () -> drops.look(0, 0));
        CHECK.looks("the other", drops, 1, 7, 1, 0, -1, -1);
        CHECK.shares("the other", drops, 1, 0, 1, 0, 0, 0);
        CHECK.due("the sink is left", drops.kind(2, 0), 2);
    }

    private static void leavesRoom() {
        Recorded drops = Recorded.grid("4.2....5", "11111111");
        drops.dispense(1);
        drops.send(0, 2, 0);
        drops.run(5);
        drops.dispense(0);
        drops.discard(0);
        CHECK.due("nobody is in the way now", drops.send(1, 5, 0), 5);
        CHECK.due("the next number", drops.dispense(1), 2);
    }

    private static void oneUnit() {
        Recorded drops = Recorded.grid("4.2.....");
        drops.dispense(0);
        drops.send(0, 2, 0);
        drops.run(2);
        CHECK.due("discard", drops.discard(0), 1);
    }

    private static void twoUnits() {
        Recorded drops = Recorded.grid("4.2..5..");
        drops.dispense(0);
        drops.dispense(1);
        drops.join(0, 1);
        drops.run(5);
        drops.send(1, 2, 0);
        drops.run(3);
        CHECK.due("discard", drops.discard(1), 2);
        CHECK.due("droplets", drops.droplets(), 0);
    }

    private static void noSuchDroplet() {
        Recorded drops = Recorded.grid("4.2..5..");
        drops.dispense(0);
        drops.dispense(1);
        for (int bad : new int[] {-1, 2, 60, Integer.MIN_VALUE, Integer.MAX_VALUE}) {
            CHECK.refused("never there: " + bad, drops, IllegalArgumentException.class, () -> drops.discard(bad));
        }
        drops.join(0, 1);
        drops.run(5);
        CHECK.refused("gone by joining", drops, IllegalArgumentException.class, () -> drops.discard(0));
        drops.send(1, 2, 0);
        drops.run(3);
        drops.discard(1);
        CHECK.refused("thrown away", drops, IllegalArgumentException.class, () -> drops.discard(1));
    }

    private static void hasARoute() {
        Recorded drops = Recorded.grid("4.22....");
        drops.dispense(0);
        drops.send(0, 3, 0);
        drops.run(2);
        CHECK.due("it passes a sink", drops.look(0, 0), 2);
        CHECK.refused("one move left", drops, IllegalStateException.class, () -> drops.discard(0));
        drops.run(1);
        CHECK.due("none left", drops.discard(0), 1);
    }

    private static void isAComer() {
        Recorded drops = Recorded.grid("4.2..5..");
        drops.dispense(0);
        drops.dispense(1);
        drops.join(0, 1);
        drops.run(2);
        CHECK.due("it passes a sink", drops.look(0, 0), 2);
        CHECK.refused("a comer", drops, IllegalStateException.class, () -> drops.discard(0));
    }

    private static void isAwaited() {
        Recorded drops = Recorded.grid("4.2..5..");
        drops.dispense(0);
        drops.send(0, 2, 0);
        drops.run(2);
        drops.dispense(1);
        drops.join(1, 0);
        for (int left = 3; left > 0; left--) {
            CHECK.refused("awaited", drops, IllegalStateException.class, () -> drops.discard(0));
            drops.run(1);
        }
        CHECK.due("joined", drops.discard(0), 2);
    }

    private static void notOnASink() {
        Recorded drops = Recorded.grid("4.234567", "1.......");
        drops.dispense(0);
        CHECK.refused("on its source", drops, IllegalStateException.class, () -> drops.discard(0));
        int[] places = {1, 3, 4, 5, 6, 7, 9, 15};
        for (int place : places) {
            drops.send(0, place % 8, place / 8);
            drops.run(20);
            CHECK.due("where it is", drops.look(0, 0), place);
            CHECK.refused("on kind " + drops.kind(place % 8, place / 8), drops, IllegalStateException.class, () -> drops.discard(0));
        }
        drops.send(0, 2, 0);
        drops.run(20);
        CHECK.due("on the sink", drops.discard(0), 1);
    }
}
