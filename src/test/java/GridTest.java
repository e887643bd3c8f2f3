import java.util.NoSuchElementException;

/** Promises 1, 2 and 16: a new object, cell, kind. */
public final class GridTest {
    private static final Check CHECK = new Check("GridTest");
    private static final int[] OFF = {-1, 8, 9, 64, -8, Integer.MIN_VALUE, Integer.MAX_VALUE};

    public static void main(String[] args) {
        CHECK.sentence("All cells are plain", GridTest::allPlain);
        CHECK.sentence("no droplets", GridTest::noDroplets);
        CHECK.sentence("time 0", GridTest::timeIsZero);
        CHECK.sentence("`GuardedDrops()`", GridTest::objectsOfTheirOwn);
        CHECK.sentence("Cell x, y becomes plain (kind = 0)", GridTest::plain);
        CHECK.sentence("dead (1)", GridTest::dead);
        CHECK.sentence("a sink (2)", GridTest::sink);
        CHECK.sentence("a sensor (3)", GridTest::sensor);
        CHECK.sentence("a source of liquid kind - 4 (4 .. 7)", GridTest::sources);
        CHECK.sentence("Answers true", GridTest::everyKindOnEveryCell);
        CHECK.sentence("Answers true", GridTest::fromEachKindToEach);
        CHECK.sentence("false when there is no such cell", GridTest::noSuchCell);
        CHECK.sentence("false when there is no such cell or kind", GridTest::noSuchKind);
        CHECK.sentence("or there are droplets", GridTest::whileThereAreDroplets);
        CHECK.sentence("or there are droplets", GridTest::onceAllAreGone);
        CHECK.sentence("Cell x, y's kind, as cell() has it", GridTest::kindWhileThereAreDroplets);
        CHECK.sentence("NONE when there is none", GridTest::kindOfNoCell);
        CHECK.end();
    }

    private static void allPlain() {
        Recorded drops = new Recorded();
        for (int c = 0; c < 64; c++) {
            CHECK.due("kind of cell " + c, drops.kind(c % 8, c / 8), 0);
        }
        for (int liquid = 0; liquid < 4; liquid++) {
            int which = liquid;
            CHECK.refused("no source of " + liquid, drops, NoSuchElementException.class, () -> drops.dispense(which));
        }
    }

    private static void noDroplets() {
        Recorded drops = new Recorded();
        CHECK.due("droplets", drops.droplets(), 0);
        CHECK.due("ahead(0, 0)", drops.ahead(0, 0), -1);
        for (int what = -1; what < 4; what++) {
            CHECK.due("units(" + what + ")", drops.units(what), 0);
        }
        CHECK.refused("look", drops, IllegalArgumentException.class, () -> drops.look(0, 0));
        CHECK.refused("share", drops, IllegalArgumentException.class, () -> drops.share(0, 0));
        CHECK.refused("send", drops, IllegalArgumentException.class, () -> drops.send(0, 0, 0));
        CHECK.refused("join", drops, IllegalArgumentException.class, () -> drops.join(0, 1));
        CHECK.refused("halve", drops, IllegalArgumentException.class, () -> drops.halve(0, true));
        CHECK.refused("discard", drops, IllegalArgumentException.class, () -> drops.discard(0));
        CHECK.refused("reading", drops, IndexOutOfBoundsException.class, () -> drops.reading(0, 0));
        CHECK.due("run without droplets", drops.run(100), 0);
    }

    private static void timeIsZero() {
        CHECK.due("time", new Recorded().time(), 0);
    }

    private static void objectsOfTheirOwn() {
        Recorded one = Recorded.grid("4.......");
        Recorded two = new Recorded();
        one.dispense(0);
        one.run(3);
        CHECK.due("another object's droplets", two.droplets(), 0);
        CHECK.due("another object's cells", two.kind(0, 0), 0);
        CHECK.due("another object's time", two.time(), 0);
        two.cell(5, 5, 5);
        CHECK.due("the first one's cells", one.kind(5, 5), 0);
    }

    /** A droplet that comes from the left over cell 1, 0, which has had the one kind and now has the other. */
    private static Recorded over(int before, int kind) {
        Recorded drops = Recorded.grid("4.......", "11111111");
        drops.cell(1, 0, before);
        drops.cell(1, 0, kind);
        drops.dispense(0);
        return drops;
    }

    private static void actsAs(int before, int kind) {
        String what = "kind " + kind + " after " + before + ": ";
        Recorded drops = over(before, kind);
        CHECK.due(what + "kind", drops.kind(1, 0), kind);
        if (kind == 1) {
            CHECK.refused(what + "a way over it", drops, NoSuchElementException.class, () -> drops.send(0, 2, 0));
            CHECK.refused(what + "a way to it", drops, NoSuchElementException.class, () -> drops.send(0, 1, 0));
        } else {
            CHECK.due(what + "a way to it", drops.send(0, 1, 0), 1);
            CHECK.due(what + "read on it", drops.run(1), kind == 3 ? 1 : 0);
            CHECK.due(what + "thrown away there", Check.answer(() -> drops.discard(0)),
                    kind == 2 ? "1" : "throws java.lang.IllegalStateException");
        }
        for (int liquid = 1; liquid < 4; liquid++) {
            Recorded other = over(before, kind);
            other.send(0, 0, 0);
            int which = liquid;
            CHECK.due(what + "let out there, while another is near", Check.answer(() -> other.dispense(which)),
                    "throws java.util.NoSuchElementException");
        }
    }

    private static void plain() {
        actsAs(0, 0);
    }

    private static void dead() {
        actsAs(0, 1);
    }

    private static void sink() {
        actsAs(0, 2);
    }

    private static void sensor() {
        actsAs(0, 3);
    }

    private static void sources() {
        for (int kind = 4; kind < 8; kind++) {
            actsAs(0, kind);
            for (int liquid = 0; liquid < 4; liquid++) {
                Recorded drops = new Recorded();
                drops.cell(6, 3, kind);
                int which = liquid;
                CHECK.due("kind " + kind + ", dispense(" + liquid + ")", Check.answer(() -> drops.dispense(which)),
                        liquid == kind - 4 ? "0" : "throws java.util.NoSuchElementException");
            }
        }
    }

    private static void everyKindOnEveryCell() {
        for (int shift = 0; shift < 8; shift++) {
            Recorded drops = new Recorded();
            for (int c = 0; c < 64; c++) {
                CHECK.due("cell", drops.cell(c % 8, c / 8, (c / 8 + c + shift) % 8), true);
            }
            for (int c = 0; c < 64; c++) {
                CHECK.due("kind at cell " + c, drops.kind(c % 8, c / 8), (c / 8 + c + shift) % 8);
            }
        }
    }

    private static void fromEachKindToEach() {
        for (int before = 0; before < 8; before++) {
            for (int kind = 0; kind < 8; kind++) {
                if (before != 4 && kind != 4) {
                    actsAs(before, kind);
                }
            }
        }
    }

    private static void noSuchCell() {
        Recorded drops = Recorded.grid("4......2");
        String before = Seen.of(drops);
        for (int off : OFF) {
            for (int on : new int[] {0, 7}) {
                CHECK.due("cell with x " + off, drops.cell(off, on, 1), false);
                CHECK.due("cell with y " + off, drops.cell(on, off, 1), false);
            }
            CHECK.due("cell with both " + off, drops.cell(off, off, 1), false);
        }
        CHECK.due("nothing has changed", Seen.of(drops), before);
    }

    private static void noSuchKind() {
        Recorded drops = Recorded.grid("4......2");
        String before = Seen.of(drops);
        for (int off : OFF) {
            CHECK.due("cell with kind " + off, drops.cell(0, 0, off), false);
        }
        CHECK.due("nothing has changed", Seen.of(drops), before);
        CHECK.due("the least kind", drops.cell(0, 0, 0), true);
        CHECK.due("the greatest kind", drops.cell(0, 0, 7), true);
    }

    private static void whileThereAreDroplets() {
        Recorded drops = Recorded.grid("4.2..5..");
        drops.dispense(0);
        drops.dispense(1);
        String before = Seen.of(drops);
        CHECK.due("far from the droplets", drops.cell(5, 5, 3), false);
        CHECK.due("to the kind that it has", drops.cell(2, 0, 2), false);
        CHECK.due("nothing has changed", Seen.of(drops), before);
        drops.join(0, 1);
        drops.run(5);
        CHECK.due("with one droplet left", drops.cell(5, 5, 3), false);
        drops.send(1, 2, 0);
        drops.run(3);
        CHECK.due("with that one on a sink", drops.cell(5, 5, 3), false);
    }

    private static void onceAllAreGone() {
        Recorded drops = Recorded.grid("4.2.....");
        drops.dispense(0);
        drops.send(0, 2, 0);
        drops.run(2);
        drops.discard(0);
        CHECK.due("when all are gone", drops.cell(5, 5, 3), true);
        CHECK.due("its new kind", drops.kind(5, 5), 3);
        CHECK.due("a source no more", drops.cell(0, 0, 0), true);
        CHECK.refused("nothing is let out there", drops, NoSuchElementException.class, () -> drops.dispense(0));
    }

    private static void kindWhileThereAreDroplets() {
        Recorded drops = Recorded.grid("01234567");
        drops.dispense(0);
        drops.dispense(2);
        drops.send(1, 6, 3);
        drops.run(3);
        for (int kind = 0; kind < 8; kind++) {
            CHECK.due("kind with droplets about", drops.kind(kind, 0), kind);
        }
    }

    private static void kindOfNoCell() {
        Recorded drops = Recorded.grid("77777777", "77777777");
        for (int off : OFF) {
            for (int on : new int[] {0, 1, 7}) {
                CHECK.due("kind with x " + off, drops.kind(off, on), -1);
                CHECK.due("kind with y " + off, drops.kind(on, off), -1);
            }
            CHECK.due("kind with both " + off, drops.kind(off, off), -1);
        }
    }
}
