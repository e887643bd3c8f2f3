/** Promise 15: units. */
public final class UnitsTest {
    private static final Check CHECK = new Check("UnitsTest");
    private static final int[] OTHERS = {2, 3, 4, -1, -2, Integer.MIN_VALUE, Integer.MAX_VALUE};

    public static void main(String[] args) {
        CHECK.sentence("How many units were let out (what = 0)", UnitsTest::letOut);
        CHECK.sentence("thrown away (1)", UnitsTest::thrownAway);
        CHECK.sentence("or are on the grid (any other what)", UnitsTest::onTheGrid);
        CHECK.end();
    }

    private static Recorded joined() {
        Recorded drops = Recorded.grid("4.2..5..", "........", "........", "...2....");
        drops.dispense(0);
        drops.dispense(1);
        drops.join(0, 1);
        drops.run(5);
        return drops;
    }

    private static void letOut() {
        Recorded drops = joined();
        CHECK.due("joined", drops.units(0), 2);
        drops.send(1, 3, 2);
        drops.run(4);
        drops.halve(1, true);
        CHECK.due("halves are not let out", drops.units(0), 2);
        drops.discard(3);
        CHECK.due("those thrown away were let out", drops.units(0), 2);
        drops.dispense(0);
        CHECK.due("one more", drops.units(0), 3);
        CHECK.refused("one that is refused", drops, java.util.NoSuchElementException.class, () -> drops.dispense(3));
        CHECK.due("still", drops.units(0), 3);
    }

    private static void thrownAway() {
        Recorded drops = joined();
        CHECK.due("none yet", drops.units(1), 0);
        drops.send(1, 2, 0);
        drops.run(3);
        CHECK.due("on the sink is not thrown away", drops.units(1), 0);
        drops.discard(1);
        CHECK.due("two units", drops.units(1), 2);
        drops.dispense(0);
        drops.send(2, 2, 0);
        drops.run(2);
        drops.discard(2);
        CHECK.due("and one more", drops.units(1), 3);
    }

    private static void onTheGrid() {
        Recorded drops = joined();
        all("joined", drops, 2);
        drops.dispense(0);
        all("and one more", drops, 3);
        drops.send(1, 3, 2);
        drops.run(4);
        drops.halve(1, true);
        all("halved", drops, 3);
        drops.discard(4);
        all("a half thrown away", drops, 2);
        drops.send(3, 3, 3);
        drops.run(2);
        drops.discard(3);
        all("the other half too", drops, 1);
        drops.send(2, 2, 0);
        drops.run(2);
        drops.discard(2);
        all("none is left", drops, 0);
        CHECK.due("let out", drops.units(0), 3);
        CHECK.due("thrown away", drops.units(1), 3);
    }

    private static void all(String what, Recorded drops, int due) {
        for (int other : OTHERS) {
            CHECK.due(what + ": units(" + other + ")", drops.units(other), due);
        }
    }
}
