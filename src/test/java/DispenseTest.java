import java.util.NoSuchElementException;

/** Promise 3: dispense. */
public final class DispenseTest {
    private static final Check CHECK = new Check("DispenseTest");

    public static void main(String[] args) {
        CHECK.sentence("A droplet of 1 unit of a liquid comes to be, resting on the source of that liquid", DispenseTest::freshDroplet);
        CHECK.sentence("that has the least cell number", DispenseTest::leastNumber);
        CHECK.sentence("on which it and all others keep clear of each other from now on", DispenseTest::nextIfNotClear);
        CHECK.sentence("on which it and all others keep clear of each other from now on", DispenseTest::notWhereOneWillRest);
        CHECK.sentence("on which it and all others keep clear of each other from now on", DispenseTest::notWhereOneWillPass);
        CHECK.sentence("on which it and all others keep clear of each other from now on", DispenseTest::notWhereOneIsStill);
        CHECK.sentence("on which it and all others keep clear of each other from now on", DispenseTest::besideAComer);
        CHECK.sentence("Answers its number.", DispenseTest::answersItsNumber);
        CHECK.sentence("IllegalArgumentException: there is no such liquid", DispenseTest::noSuchLiquid);
        CHECK.sentence("NoSuchElementException: there is no source of it on which that is so", DispenseTest::noSource);
        CHECK.sentence("NoSuchElementException: there is no source of it on which that is so", DispenseTest::noClearSource);
        CHECK.sentence("IllegalStateException: there are 6 droplets", DispenseTest::sixDroplets);
        CHECK.sentence("or there were 60", DispenseTest::sixtyDroplets);
        CHECK.end();
    }

    private static void freshDroplet() {
        Recorded drops = Recorded.grid("4..5..6.", "........", "........", "7.......");
        for (int liquid = 3; liquid >= 0; liquid--) {
            int d = drops.dispense(liquid);
            CHECK.looks("a fresh one", drops, d, liquid == 3 ? 24 : 3 * liquid, 1, 0, -1, -1);
            for (int i = 0; i < 4; i++) {
                CHECK.due("its share of " + i, drops.share(d, i), i == liquid ? 1 : 0);
            }
            CHECK.due("its exponent", drops.share(d, 4), 0);
            CHECK.due("it rests", drops.ahead(d, 100), drops.look(d, 0));
            CHECK.due("let out", drops.units(0), d + 1);
            CHECK.due("droplets", drops.droplets(), d + 1);
        }
    }

    /** The cells 7, 8 and 56 are the sources; a reader of columns first would take 8 or 56. */
    private static void leastNumber() {
        Recorded drops = Recorded.grid(".......4", "4.......", "........", "........", "........", "........", "........", "4.......");
        drops.dispense(0);
        CHECK.due("the first", drops.look(0, 0), 7);
        drops.dispense(0);
        CHECK.due("the second, which is not near the first", drops.look(1, 0), 8);
        drops.dispense(0);
        CHECK.due("the third", drops.look(2, 0), 56);
    }

    private static void nextIfNotClear() {
        Recorded drops = Recorded.grid("........", ".4......", "..4..4..", "...4....");
        drops.dispense(0);
        CHECK.due("the least source", drops.look(0, 0), 9);
        drops.dispense(0);
        CHECK.due("not the least, which is taken, nor the next, which is near", drops.look(1, 0), 21);
        drops.dispense(0);
        CHECK.due("two cells off on both sides is clear enough", drops.look(2, 0), 27);
    }

    private static void notWhereOneWillRest() {
        Recorded drops = Recorded.grid("4.......", "1111.111", "...5...5");
        drops.dispense(0);
        CHECK.due("the way through the gap", drops.send(0, 4, 2), 6);
        drops.dispense(1);
        CHECK.due("not the source that will be near", drops.look(1, 0), 23);
        drops.run(6);
        CHECK.refused("nor when it is near", drops, NoSuchElementException.class, () -> drops.dispense(1));
    }

    /** The source is beside the way, far from its start and from its end. */
    private static void notWhereOneWillPass() {
        Recorded drops = Recorded.grid("4......1", "...5....", "........", ".....5..");
        drops.dispense(0);
        drops.send(0, 6, 0);
        Recorded second = drops.again();
        drops.dispense(1);
        CHECK.due("not beside the way", drops.look(1, 0), 29);
        second.run(4);
        CHECK.due("it has just gone by", second.look(0, 0), 4);
        second.dispense(1);
        CHECK.due("not while it is near", second.look(1, 0), 29);
        drops.run(5);
        CHECK.due("when it has gone by", drops.dispense(1), 2);
        CHECK.due("the least source", drops.look(2, 0), 11);
    }

    private static void notWhereOneIsStill() {
        Recorded drops = Recorded.grid("4......1", "1.......");
        drops.dispense(0);
        drops.send(0, 6, 0);
        CHECK.refused("it has not left yet", drops, NoSuchElementException.class, () -> drops.dispense(0));
        drops.run(1);
        CHECK.refused("it is still near", drops, NoSuchElementException.class, () -> drops.dispense(0));
        drops.run(1);
        CHECK.due("two cells off", drops.dispense(0), 1);
    }

    /** A comer counts with its cells up to the last one before it is gone. */
    private static void besideAComer() {
        Recorded two = Recorded.grid("4....5..", "........", "..6.....", "........", ".....6..");
        two.dispense(0);
        two.dispense(1);
        two.join(0, 1);
        two.dispense(2);
        CHECK.due("two rows off its way", two.look(2, 0), 18);
        Recorded one = Recorded.grid("4....5..", "..6.....", "........", "........", "......6.");
        one.dispense(0);
        one.dispense(1);
        one.join(0, 1);
        one.dispense(2);
        CHECK.due("one row off its way", one.look(2, 0), 38);
        Recorded last = Recorded.grid("4....5..", "........", "...6....", ".......6");
        last.dispense(0);
        last.dispense(1);
        last.join(0, 1);
        last.run(5);
        last.dispense(2);
        CHECK.due("two cells off the awaited one, where the comer is gone", last.look(2, 0), 19);
    }

    private static void answersItsNumber() {
        Recorded drops = Recorded.grid("4.2.....");
        for (int d = 0; d < 8; d++) {
            CHECK.due("its number", drops.dispense(0), d);
            drops.send(d, 2, 0);
            drops.run(2);
            drops.discard(d);
        }
    }

    private static void noSuchLiquid() {
        Recorded drops = Recorded.grid("4567....", "01230123");
        for (int liquid : new int[] {-1, 4, 5, 8, -4, Integer.MIN_VALUE, Integer.MAX_VALUE}) {
            CHECK.refused("dispense(" + liquid + ")", drops, IllegalArgumentException.class, () -> drops.dispense(liquid));
        }
        CHECK.due("the least liquid", drops.dispense(0), 0);
        CHECK.due("the greatest liquid", drops.dispense(3), 1);
    }

    private static void noSource() {
        Recorded drops = Recorded.grid("4.....57");
        CHECK.refused("no source of liquid 2", drops, NoSuchElementException.class, () -> drops.dispense(2));
        CHECK.due("no number was used up", drops.dispense(0), 0);
    }

    private static void noClearSource() {
        Recorded drops = Recorded.grid("44......", "44......");
        drops.dispense(0);
        CHECK.refused("all sources near it", drops, NoSuchElementException.class, () -> drops.dispense(0));
        drops.send(0, 3, 0);
        drops.run(2);
        CHECK.due("it has left", drops.dispense(0), 1);
        CHECK.refused("none between the two", drops, NoSuchElementException.class, () -> drops.dispense(0));
    }

    private static void sixDroplets() {
        Recorded drops = Recorded.grid("4.4.4.4.", "........", "4.4.4...", "......6.");
        for (int d = 0; d < 6; d++) {
            CHECK.due("up to six", drops.dispense(0), d);
        }
        CHECK.refused("a seventh", drops, IllegalStateException.class, () -> drops.dispense(0));
        CHECK.refused("a seventh of another liquid", drops, IllegalStateException.class, () -> drops.dispense(2));
    }

    private static void sixtyDroplets() {
        Recorded drops = Recorded.grid("4.2.....", "........", "4.......");
        for (int d = 0; d < 60; d++) {
            CHECK.due("up to sixty", drops.dispense(0), d);
            if (d < 59) {
                drops.send(d, 2, 0);
                drops.run(2);
                drops.discard(d);
            }
        }
        CHECK.refused("a sixty-first", drops, IllegalStateException.class, () -> drops.dispense(0));
        CHECK.due("let out", drops.units(0), 60);
    }
}
