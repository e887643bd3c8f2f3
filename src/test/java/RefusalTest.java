import java.util.NoSuchElementException;

/** The last sentence of the terms: which exception is thrown when several would do; and that nothing changes then. */
public final class RefusalTest {
    private static final Check CHECK = new Check("RefusalTest");
    private static final String ORDER = "the one named first when several would do";

    public static void main(String[] args) {
        CHECK.sentence(ORDER, RefusalTest::dispenseOfNoLiquid);
        CHECK.sentence(ORDER, RefusalTest::dispenseWithoutASource);
        CHECK.sentence(ORDER, RefusalTest::dispenseAfterSixty);
        CHECK.sentence(ORDER, RefusalTest::sendToNoCell);
        CHECK.sentence(ORDER, RefusalTest::sendOfOneThatIsNotFree);
        CHECK.sentence(ORDER, RefusalTest::joinOfNoTwo);
        CHECK.sentence(ORDER, RefusalTest::joinOfThoseThatCannot);
        CHECK.sentence(ORDER, RefusalTest::halveOfNone);
        CHECK.sentence(ORDER, RefusalTest::discardOfNone);
        CHECK.sentence("a call that throws changes nothing", RefusalTest::allGoesOnAsBefore);
        CHECK.end();
    }

    private static Recorded sixThere() {
        Recorded drops = Recorded.grid("4.4.4.4.", "........", "4.4.4..6", "........", "5.......");
        for (int i = 0; i < 6; i++) {
            drops.dispense(0);
        }
        return drops;
    }

    private static void dispenseOfNoLiquid() {
        Recorded drops = sixThere();
        CHECK.refused("with 6 droplets", drops, IllegalArgumentException.class, () -> drops.dispense(4));
        CHECK.refused("with 6 droplets", drops, IllegalArgumentException.class, () -> drops.dispense(-1));
        Recorded bare = new Recorded();
        CHECK.refused("without any source", bare, IllegalArgumentException.class, () -> bare.dispense(4));
    }

    private static void dispenseWithoutASource() {
        Recorded drops = sixThere();
        CHECK.refused("with 6 droplets, no source", drops, NoSuchElementException.class, () -> drops.dispense(3));
        CHECK.refused("with 6 droplets, a clear source", drops, IllegalStateException.class, () -> drops.dispense(2));
        CHECK.refused("with 6 droplets, the last source of six clear", drops, IllegalStateException.class, () -> drops.dispense(0));
        drops.send(4, 0, 5);
        CHECK.refused("with 6 droplets, a source where one will be", drops, NoSuchElementException.class, () -> drops.dispense(1));
    }

    private static void dispenseAfterSixty() {
        Recorded drops = Recorded.grid("4.2.....");
        for (int d = 0; d < 60; d++) {
            drops.dispense(0);
            drops.send(d, 2, 0);
            if (d < 59) {
                drops.run(2);
                drops.discard(d);
            }
        }
        CHECK.refused("after 60, no such liquid", drops, IllegalArgumentException.class, () -> drops.dispense(4));
        CHECK.refused("after 60, no source", drops, NoSuchElementException.class, () -> drops.dispense(1));
        CHECK.refused("after 60, no clear source", drops, NoSuchElementException.class, () -> drops.dispense(0));
        drops.run(2);
        CHECK.refused("after 60, a clear source", drops, IllegalStateException.class, () -> drops.dispense(0));
    }

    private static void sendToNoCell() {
        Recorded drops = Recorded.grid("4...5...");
        drops.dispense(0);
        drops.dispense(1);
        CHECK.refused("no such droplet, no such cell", drops, IllegalArgumentException.class, () -> drops.send(2, 8, 8));
        CHECK.refused("no such droplet, and one rests there", drops, IllegalArgumentException.class, () -> drops.send(2, 0, 0));
        drops.join(0, 1);
        CHECK.refused("a comer, no such cell", drops, IllegalArgumentException.class, () -> drops.send(0, 0, 8));
        CHECK.refused("an awaited one, no such cell", drops, IllegalArgumentException.class, () -> drops.send(1, -1, 0));
    }

    private static void sendOfOneThatIsNotFree() {
        Recorded drops = Recorded.grid("4...5..1");
        drops.dispense(0);
        drops.dispense(1);
        drops.send(0, 0, 4);
        CHECK.refused("it has a route, a dead cell", drops, IllegalStateException.class, () -> drops.send(0, 7, 0));
        CHECK.refused("it has a route, and one rests there", drops, IllegalStateException.class, () -> drops.send(0, 4, 0));
        drops.run(4);
        drops.join(0, 1);
        CHECK.refused("a comer, a dead cell", drops, IllegalStateException.class, () -> drops.send(0, 7, 0));
        CHECK.refused("an awaited one, a dead cell", drops, IllegalStateException.class, () -> drops.send(1, 7, 0));
    }

    private static void joinOfNoTwo() {
        Recorded drops = Recorded.grid("4...5...", "........", "........", "6.......");
        drops.dispense(0);
        drops.dispense(1);
        drops.dispense(2);
        drops.join(0, 1);
        CHECK.refused("none, into a comer", drops, IllegalArgumentException.class, () -> drops.join(3, 0));
        CHECK.refused("a comer, into none", drops, IllegalArgumentException.class, () -> drops.join(0, 3));
        CHECK.refused("none, into an awaited one", drops, IllegalArgumentException.class, () -> drops.join(-1, 1));
        CHECK.refused("a comer, into itself", drops, IllegalArgumentException.class, () -> drops.join(0, 0));
        CHECK.refused("an awaited one, into itself", drops, IllegalArgumentException.class, () -> drops.join(1, 1));
        drops.run(4);
        CHECK.refused("2 units, into one that is gone", drops, IllegalArgumentException.class, () -> drops.join(1, 0));
        CHECK.refused("2 units, into itself", drops, IllegalArgumentException.class, () -> drops.join(1, 1));
    }

    /** Droplets 0 and 1 are shut off from droplets 2 and 3. */
    private static void joinOfThoseThatCannot() {
        Recorded drops = Recorded.grid("4..51...", "....1...", "11111...", "6..7....");
        for (int liquid = 0; liquid < 4; liquid++) {
            drops.dispense(liquid);
        }
        CHECK.refused("no way", drops, NoSuchElementException.class, () -> drops.join(0, 2));
        drops.join(0, 1);
        CHECK.refused("a comer, no way", drops, IllegalStateException.class, () -> drops.join(0, 2));
        CHECK.refused("into an awaited one, no way", drops, IllegalStateException.class, () -> drops.join(2, 1));
        drops.run(3);
        CHECK.refused("2 units, no way", drops, IllegalStateException.class, () -> drops.join(1, 2));
        CHECK.refused("into 2 units, no way", drops, IllegalStateException.class, () -> drops.join(2, 1));
        drops.send(3, 7, 7);
        CHECK.refused("one with a route, into 2 units", drops, IllegalStateException.class, () -> drops.join(3, 1));
    }

    private static void halveOfNone() {
        Recorded drops = sixThere();
        CHECK.refused("with 6 droplets", drops, IllegalArgumentException.class, () -> drops.halve(6, true));
        CHECK.refused("with 6 droplets, 1 unit", drops, IllegalStateException.class, () -> drops.halve(0, true));
    }

    private static void discardOfNone() {
        Recorded drops = sixThere();
        CHECK.refused("no such droplet", drops, IllegalArgumentException.class, () -> drops.discard(6));
        drops.send(4, 0, 7);
        CHECK.refused("neither free nor on a sink", drops, IllegalStateException.class, () -> drops.discard(4));
    }

    /** A run of calls with refused ones between them ends just as the same run without these. */
    private static void allGoesOnAsBefore() {
        Recorded plain = new Recorded();
        Recorded troubled = new Recorded();
        story(plain, false);
        story(troubled, true);
        CHECK.due("the end of the run", Seen.of(troubled), Seen.of(plain));
    }

    private static void story(Recorded drops, boolean troubled) {
        String[] rows = {"4.......", "........", "....5...", "........", "6......2"};
        for (int c = 0; c < 8 * rows.length; c++) {
            char kind = rows[c / 8].charAt(c % 8);
            if (kind != '.') {
                drops.cell(c % 8, c / 8, kind - '0');
            }
        }
        trouble(drops, troubled);
        drops.dispense(0);
        drops.dispense(1);
        drops.dispense(2);
        trouble(drops, troubled);
        drops.join(0, 1);
        drops.send(2, 7, 4);
        trouble(drops, troubled);
        drops.run(3);
        trouble(drops, troubled);
        drops.run(10);
        drops.discard(2);
        drops.halve(1, true);
        trouble(drops, troubled);
        drops.dispense(0);
    }

    private static void trouble(Recorded drops, boolean troubled) {
        if (!troubled) {
            return;
        }
        int thrown = 0;
        for (int d = -1; d < 3; d++) {
            int number = d == 2 ? 60 : d;
            thrown += threw(() -> drops.send(number, 8, 0));
            thrown += threw(() -> drops.join(number, number));
            thrown += threw(() -> drops.discard(number));
            thrown += threw(() -> drops.look(number, 5));
            thrown += threw(() -> drops.share(number, 5));
        }
        thrown += threw(() -> drops.halve(0, true));
        thrown += threw(() -> drops.dispense(4));
        thrown += threw(() -> drops.dispense(3));
        thrown += threw(() -> drops.run(101));
        thrown += threw(() -> drops.reading(0, 0));
        CHECK.due("all of these calls throw", thrown, 25);
    }

    private static int threw(java.util.function.Supplier<? extends Number> call) {
        return Check.answer(call).startsWith("throws") ? 1 : 0;
    }
}
