/** The example of README.md answers what is written beside it. */
public final class ReadmeTest {
    private static final Check CHECK = new Check("ReadmeTest");

    public static void main(String[] args) {
        CHECK.sentence("How to use it", ReadmeTest::example);
        CHECK.end();
    }

    private static void example() {
        GuardedDrops drops = new GuardedDrops();
        CHECK.due("a source of liquid 0", drops.cell(0, 0, 4), true);
        CHECK.due("a source of liquid 1", drops.cell(7, 0, 5), true);
        CHECK.due("a sensor", drops.cell(3, 3, 3), true);
        CHECK.due("a sink", drops.cell(7, 7, 2), true);
        CHECK.due("a", drops.dispense(0), 0);
        CHECK.due("b", drops.dispense(1), 1);
        CHECK.due("a's cell", drops.look(0, 0), 0);
        CHECK.due("b's cell", drops.look(1, 0), 7);
        CHECK.due("7 moves to make", drops.join(0, 1), 7);
        CHECK.due("none is read", drops.run(7), 0);
        CHECK.due("one droplet", drops.droplets(), 1);
        CHECK.due("of 2 units", drops.look(1, 1), 2);
        CHECK.due("its share of liquid 0", drops.share(1, 0), 1);
        CHECK.due("over 2^1", drops.share(1, 4), 1);
        CHECK.due("how long the route is", drops.send(1, 3, 3), 7);
        CHECK.due("read once", drops.run(10), 1);
        CHECK.due("the time when it was read", drops.reading(0, 1), 14);
        CHECK.due("two new droplets", drops.halve(1, false), 2);
        CHECK.due("side by side", drops.look(3, 0) - drops.look(2, 0), 2);
        CHECK.due("to the sink", drops.send(2, 7, 7), 9);
        CHECK.due("none is read", drops.run(20), 0);
        CHECK.due("thrown away", drops.discard(2), 1);
    }
}
