/** Promises 10, 11 and 12: droplets, look, ahead. */
public final class LookTest {
    private static final Check CHECK = new Check("LookTest");
    private static final int[] OFF = {-1, 5, 6, 60, Integer.MIN_VALUE, Integer.MAX_VALUE};

    public static void main(String[] args) {
        CHECK.sentence("How many droplets there are.", LookTest::howMany);
        CHECK.sentence("(one that is gone is no droplet any more)", LookTest::goneOnes);
        CHECK.sentence("what = 0 its cell, 1 its units, 2 how many moves it has still to make", LookTest::onItsWay);
        CHECK.sentence("3 the droplet into which its route leads (NONE for none)", LookTest::leadsInto);
        CHECK.sentence("4 the droplet that it awaits (NONE for none)", LookTest::awaits);
        CHECK.sentence("IllegalArgumentException: there is no such droplet", LookTest::noSuchDroplet);
        CHECK.sentence("or what", LookTest::noSuchWhat);
        CHECK.sentence("The cell on which droplet d will be n steps from now, if nothing else is done", LookTest::aheadOnItsWay);
        CHECK.sentence("NONE when it will be gone then", LookTest::aheadOfAComer);
        CHECK.sentence("or n is below 0", LookTest::aheadByLessThanNone);
        CHECK.sentence("or there is no such droplet", LookTest::aheadOfNoDroplet);
        CHECK.end();
    }

    private static void howMany() {
        Recorded drops = Recorded.grid("4..5...2");
        CHECK.due("none", drops.droplets(), 0);
        drops.dispense(0);
        CHECK.due("one", drops.droplets(), 1);
        drops.dispense(1);
        CHECK.due("two", drops.droplets(), 2);
        drops.join(0, 1);
        drops.run(2);
        CHECK.due("before they are joined", drops.droplets(), 2);
        drops.run(1);
        CHECK.due("joined", drops.droplets(), 1);
        drops.send(1, 5, 1);
        drops.run(3);
        drops.halve(1, false);
        CHECK.due("halved", drops.droplets(), 2);
        drops.send(3, 7, 0);
        drops.run(2);
        drops.discard(3);
        CHECK.due("one thrown away", drops.droplets(), 1);
    }

    private static void goneOnes() {
        Recorded drops = Recorded.grid("4..5...2");
        drops.dispense(0);
        drops.dispense(1);
        drops.join(0, 1);
        drops.run(3);
        CHECK.refused("by joining", drops, IllegalArgumentException.class, () -> drops.look(0, 0));
        drops.send(1, 5, 1);
        drops.run(3);
        drops.halve(1, false);
        CHECK.refused("by halving", drops, IllegalArgumentException.class, () -> drops.look(1, 0));
        drops.send(3, 7, 0);
        drops.run(2);
        drops.discard(3);
        CHECK.refused("by being thrown away", drops, IllegalArgumentException.class, () -> drops.look(3, 0));
        CHECK.due("the other half", drops.look(2, 0), 12);
    }

    private static void onItsWay() {
        Recorded drops = Recorded.grid("........", ".4......");
        drops.dispense(0);
        CHECK.looks("resting", drops, 0, 9, 1, 0, -1, -1);
        drops.send(0, 3, 2);
        int[] cells = {9, 10, 11, 19, 19};
        for (int step = 0; step < cells.length; step++) {
            CHECK.looks("at step " + step, drops, 0, cells[step], 1, Math.max(0, 3 - step), -1, -1);
            drops.run(1);
        }
    }

    private static void leadsInto() {
        Recorded drops = Recorded.grid("4..5....", "........", "......6.");
        drops.dispense(2);
        drops.dispense(0);
        drops.dispense(1);
        CHECK.due("none yet", drops.look(2, 3), -1);
        drops.join(2, 1);
        CHECK.due("the comer's", drops.look(2, 3), 1);
        CHECK.due("the awaited one's", drops.look(1, 3), -1);
        drops.send(0, 7, 7);
        CHECK.due("one that was sent", drops.look(0, 3), -1);
        drops.run(2);
        CHECK.due("a move before", drops.look(2, 3), 1);
        drops.run(1);
        CHECK.due("the joined one's", drops.look(1, 3), -1);
    }

    /** Droplet 0 is the comer, so that its number can't be taken for none. */
    private static void awaits() {
        Recorded drops = Recorded.grid("4..5....");
        drops.dispense(0);
        drops.dispense(1);
        CHECK.due("none yet", drops.look(1, 4), -1);
        drops.join(0, 1);
        CHECK.due("the awaited one's", drops.look(1, 4), 0);
        CHECK.due("the comer's", drops.look(0, 4), -1);
        CHECK.due("what the comer leads into", drops.look(0, 3), 1);
        drops.run(2);
        CHECK.due("a move before", drops.look(1, 4), 0);
        drops.run(1);
        CHECK.due("the joined one's", drops.look(1, 4), -1);
    }

    private static void noSuchDroplet() {
        Recorded drops = Recorded.grid("4..5....");
        CHECK.refused("none at all", drops, IllegalArgumentException.class, () -> drops.look(0, 0));
        drops.dispense(0);
        for (int bad : OFF) {
            for (int what = 0; what < 5; what++) {
                int which = what;
                CHECK.refused("look(" + bad + ", " + what + ")", drops, IllegalArgumentException.class, () -> drops.look(bad, which));
            }
        }
        CHECK.refused("the next one", drops, IllegalArgumentException.class, () -> drops.look(1, 0));
    }

    private static void noSuchWhat() {
        Recorded drops = Recorded.grid("4..5....");
        drops.dispense(0);
        for (int bad : OFF) {
            CHECK.refused("look(0, " + bad + ")", drops, IllegalArgumentException.class, () -> drops.look(0, bad));
            CHECK.refused("look(" + bad + ", " + bad + ")", drops, IllegalArgumentException.class, () -> drops.look(bad, bad));
        }
    }

    private static void aheadOnItsWay() {
        Recorded drops = Recorded.grid("........", ".4......");
        drops.dispense(0);
        CHECK.path("resting", drops, 0, 9);
        drops.send(0, 3, 2);
        CHECK.path("at first", drops, 0, 9, 10, 11, 19);
        drops.run(1);
        CHECK.path("a step later", drops, 0, 10, 11, 19);
        drops.run(1);
        CHECK.path("two steps later", drops, 0, 11, 19);
        drops.run(1);
        CHECK.path("there", drops, 0, 19);
        drops.send(0, 3, 1);
        CHECK.path("if nothing else is done; but it was sent on", drops, 0, 19, 11);
    }

    private static void aheadOfAComer() {
        Recorded drops = Recorded.grid("4..5....");
        drops.dispense(0);
        drops.dispense(1);
        drops.join(1, 0);
        int[] cells = {3, 2, 1, -1, -1};
        for (int step = 0; step < 4; step++) {
            for (int n = 0; step + n < cells.length; n++) {
                CHECK.due("the comer at step " + step + ", ahead " + n, drops.ahead(1, n), cells[step + n]);
                CHECK.due("the awaited one at step " + step + ", ahead " + n, drops.ahead(0, n), 0);
            }
            CHECK.due("the comer for ever", drops.ahead(1, Integer.MAX_VALUE), -1);
            CHECK.due("the awaited one for ever", drops.ahead(0, Integer.MAX_VALUE), 0);
            drops.run(1);
        }
    }

    private static void aheadByLessThanNone() {
        Recorded drops = Recorded.grid("4.......");
        drops.dispense(0);
        drops.send(0, 5, 0);
        drops.run(2);
        CHECK.due("now", drops.ahead(0, 0), 2);
        for (int n : new int[] {-1, -2, -60, -100, Integer.MIN_VALUE}) {
            CHECK.due("ahead(0, " + n + ")", drops.ahead(0, n), -1);
        }
    }

    private static void aheadOfNoDroplet() {
        Recorded drops = Recorded.grid("4.2.....");
        CHECK.due("none at all", drops.ahead(0, 0), -1);
        drops.dispense(0);
        for (int bad : OFF) {
            for (int n = -1; n < 3; n++) {
                CHECK.due("ahead(" + bad + ", " + n + ")", drops.ahead(bad, n), -1);
            }
        }
        drops.send(0, 2, 0);
        drops.run(2);
        drops.discard(0);
        CHECK.due("one that was thrown away", drops.ahead(0, 0), -1);
        CHECK.due("one that was thrown away, later", drops.ahead(0, 5), -1);
    }
}
