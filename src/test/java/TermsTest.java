import java.util.NoSuchElementException;
import java.util.function.Supplier;

/** The section "Terms", but for the ways (WaysTest), the shares (ShareTest) and what is thrown (RefusalTest). */
public final class TermsTest {
    private static final Check CHECK = new Check("TermsTest");

    public static void main(String[] args) {
        CHECK.sentence("CELLS are at x, y from 0 to 7", TermsTest::cellsThereAre);
        CHECK.sentence("CELLS are at x, y from 0 to 7", TermsTest::numbersThatWrapAround);
        CHECK.sentence("cell c is 8 * y + x", TermsTest::cellNumbers);
        CHECK.sentence("Two cells are NEAR when both their x and their y differ by at most 1.", TermsTest::nearCells);
        CHECK.sentence("A MOVE goes from a cell to the same cell (0), up (1: y less by 1), right (2: x more by 1), "
                + "down (3) or left (4), not beyond the grid.", TermsTest::movesFromEachCellToEach);
        CHECK.sentence("TIME counts steps, from 0.", TermsTest::timeCountsSteps);
        CHECK.sentence("DROPLETS are numbered from 0 as they come to be", TermsTest::numbersAsTheyCome);
        CHECK.sentence("at most 60 in all", TermsTest::sixtyInAll);
        CHECK.sentence("and 6 at a time", TermsTest::sixAtATime);
        CHECK.sentence("A droplet has a volume of 1 or 2 units", TermsTest::oneOrTwoUnits);
        CHECK.sentence("moves that it makes in the next steps, one a step", TermsTest::oneMoveAStep);
        CHECK.sentence("without, or behind it, it RESTS", TermsTest::restsWithoutARoute);
        CHECK.sentence("So for each droplet it is known on which cell it will be at each time from now on.", TermsTest::knownFromNowOn);
        CHECK.sentence("its last move ends on that one's cell, and then they are joined", TermsTest::joinedByTheLastMove);
        CHECK.sentence("A droplet is FREE when it has no route", TermsTest::notFreeUpToItsLastMove);
        CHECK.sentence("A droplet is FREE when it has no route", TermsTest::notFreeAsAComer);
        CHECK.sentence("and is not awaited", TermsTest::notFreeWhileAwaited);
        CHECK.sentence("When two are joined the one that came is gone from that time on.", TermsTest::comerIsGone);
        CHECK.sentence("JOINED, two droplets of 1 unit each are one of 2 units: the awaited one", TermsTest::theAwaitedOneIsLeft);
        CHECK.sentence("HALVED, a droplet of 2 units is gone", TermsTest::theWholeIsGone);
        CHECK.sentence("on the cells left (the first one) and right, or above (the first one) and below", TermsTest::whereTheHalvesAre);
        CHECK.end();
    }

    private static void cellsThereAre() {
        Recorded drops = new Recorded();
        for (int y = -2; y < 10; y++) {
            for (int x = -2; x < 10; x++) {
                boolean there = x >= 0 && x <= 7 && y >= 0 && y <= 7;
                CHECK.due("cell(" + x + ", " + y + ", 0)", drops.cell(x, y, 0), there);
                CHECK.due("kind(" + x + ", " + y + ")", drops.kind(x, y), there ? 0 : -1);
            }
        }
    }

    /** With these, 8 * y + x is a number from 0 to 63, for some only as an int. */
    private static void numbersThatWrapAround() {
        int[][] pairs = {{8, 0}, {8, -1}, {-1, 1}, {-8, 1}, {63, 0}, {64, -8}, {-56, 7}, {0, 1 << 29}, {7, -(1 << 29)}, {5, 3 << 29},
            {Integer.MIN_VALUE, 1 << 28}, {Integer.MIN_VALUE, -(1 << 28)}};
        for (int[] pair : pairs) {
            int x = pair[0];
            int y = pair[1];
            Recorded drops = Recorded.grid("4.......");
            CHECK.due("cell(" + x + ", " + y + ", 1)", drops.cell(x, y, 1), false);
            CHECK.due("kind(" + x + ", " + y + ")", drops.kind(x, y), -1);
            drops.dispense(0);
            CHECK.refused("send(0, " + x + ", " + y + ")", drops, IllegalArgumentException.class, () -> drops.send(0, x, y));
            for (int c = 0; c < 64; c++) {
                CHECK.due("no cell has changed", drops.kind(c % 8, c / 8), c == 0 ? 4 : 0);
            }
        }
    }

    private static void cellNumbers() {
        for (int y = 0; y < 8; y++) {
            for (int x = 0; x < 8; x++) {
                Recorded drops = new Recorded();
                drops.cell(x, y, 4);
                drops.dispense(0);
                CHECK.due("the number of the cell " + x + ", " + y, drops.look(0, 0), 8 * y + x);
            }
        }
    }

    private static void nearCells() {
        for (int a = 0; a < 64; a++) {
            for (int b = 0; b < 64; b++) {
                if (a != b) {
                    Recorded drops = new Recorded();
                    drops.cell(a % 8, a / 8, 4);
                    drops.cell(b % 8, b / 8, 5);
                    drops.dispense(0);
                    boolean near = Math.abs(a % 8 - b % 8) <= 1 && Math.abs(a / 8 - b / 8) <= 1;
                    CHECK.due("a droplet on " + b + " while one is on " + a, Check.answer(() -> drops.dispense(1)),
                            near ? "throws java.util.NoSuchElementException" : "1");
                }
            }
        }
    }

    /** Up comes before right, right before down, and down before left. */
    private static int leastStep(int from, int to) {
        if (to / 8 < from / 8) {
            return from - 8;
        }
        if (to % 8 > from % 8) {
            return from + 1;
        }
        return to / 8 > from / 8 ? from + 8 : to % 8 < from % 8 ? from - 1 : from;
    }

    private static void movesFromEachCellToEach() {
        for (int a = 0; a < 64; a++) {
            for (int b = 0; b < 64; b++) {
                Recorded drops = new Recorded();
                drops.cell(a % 8, a / 8, 4);
                drops.dispense(0);
                int moves = Math.abs(a % 8 - b % 8) + Math.abs(a / 8 - b / 8);
                CHECK.due("moves from " + a + " to " + b, drops.send(0, b % 8, b / 8), moves);
                int cell = a;
                for (int n = 0; n <= moves + 1; n++) {
                    CHECK.due("from " + a + " to " + b + ", the cell in " + n, drops.ahead(0, n), cell);
                    cell = leastStep(cell, b);
                }
            }
        }
    }

    private static void timeCountsSteps() {
        Recorded drops = Recorded.grid("4..5...2");
        CHECK.due("time of a new object", drops.time(), 0);
        drops.dispense(0);
        drops.dispense(1);
        drops.join(1, 0);
        CHECK.due("calls but run take no time", drops.time(), 0);
        drops.run(1);
        CHECK.due("a step", drops.time(), 1);
        drops.run(99);
        CHECK.due("steps without moves count too", drops.time(), 100);
    }

    private static void numbersAsTheyCome() {
        Recorded drops = Recorded.grid("4...5...", "........", "........", "....2...");
        CHECK.due("the first", drops.dispense(0), 0);
        CHECK.refused("one that is refused", drops, NoSuchElementException.class, () -> drops.dispense(0));
        CHECK.due("the next, whatever the liquid", drops.dispense(1), 1);
        drops.join(0, 1);
        drops.run(4);
        drops.send(1, 4, 2);
        drops.run(2);
        CHECK.due("halves have the next two", drops.halve(1, true), 2);
        CHECK.due("the first half is above", drops.look(2, 0), 12);
        CHECK.due("the second half is below", drops.look(3, 0), 28);
        drops.discard(3);
        CHECK.due("no number comes again", drops.dispense(0), 4);
    }

    /** Lets so many droplets out, one after another, and throws them away. */
    private static Recorded madeBefore(int made) {
        Recorded drops = Recorded.grid("4.2.....", "........", "........", ".....5..");
        for (int d = 0; d < made; d++) {
            drops.dispense(0);
            drops.send(d, 2, 0);
            drops.run(2);
            drops.discard(d);
        }
        return drops;
    }

    private static void sixtyInAll() {
        Recorded drops = madeBefore(59);
        CHECK.due("the sixtieth", drops.dispense(0), 59);
        CHECK.refused("a sixty-first", drops, IllegalStateException.class, () -> drops.dispense(1));
        drops.send(59, 2, 0);
        drops.run(2);
        drops.discard(59);
        CHECK.refused("a sixty-first when all are gone", drops, IllegalStateException.class, () -> drops.dispense(0));
    }

    private static void sixAtATime() {
        Recorded drops = Recorded.grid("4.4.4.4.", "........", "4.4.4.2.");
        for (int d = 0; d < 6; d++) {
            CHECK.due("one of six", drops.dispense(0), d);
        }
        CHECK.due("six", drops.droplets(), 6);
        CHECK.refused("a seventh", drops, IllegalStateException.class, () -> drops.dispense(0));
        drops.send(3, 6, 2);
        drops.run(2);
        drops.discard(3);
        CHECK.due("a sixth again", drops.dispense(0), 6);
        CHECK.due("six again", drops.droplets(), 6);
    }

    private static void oneOrTwoUnits() {
        Recorded drops = Recorded.grid("4.......", "........", "........", "....5...");
        drops.dispense(0);
        drops.dispense(1);
        CHECK.due("let out", drops.look(0, 1), 1);
        drops.join(0, 1);
        CHECK.due("awaited", drops.look(1, 1), 1);
        drops.run(7);
        CHECK.due("joined", drops.look(1, 1), 2);
        drops.dispense(0);
        CHECK.refused("three by joining into it", drops, IllegalStateException.class, () -> drops.join(2, 1));
        CHECK.refused("three by its joining", drops, IllegalStateException.class, () -> drops.join(1, 2));
        drops.halve(1, false);
        CHECK.due("the first half", drops.look(3, 1), 1);
        CHECK.due("the second half", drops.look(4, 1), 1);
        CHECK.refused("halves of a half", drops, IllegalStateException.class, () -> drops.halve(3, true));
    }

    private static void oneMoveAStep() {
        Recorded drops = Recorded.grid("4.......");
        drops.dispense(0);
        drops.send(0, 5, 0);
        CHECK.due("no move before a step", drops.look(0, 0), 0);
        for (int step = 1; step <= 5; step++) {
            drops.run(1);
            CHECK.due("behind step " + step, drops.look(0, 0), step);
            CHECK.due("moves left", drops.look(0, 2), 5 - step);
        }
    }

    private static void restsWithoutARoute() {
        Recorded drops = Recorded.grid("4.......");
        drops.dispense(0);
        drops.run(100);
        CHECK.due("without a route", drops.look(0, 0), 0);
        drops.send(0, 5, 0);
        drops.run(6);
        CHECK.due("a step behind its route", drops.look(0, 0), 5);
        drops.run(100);
        CHECK.due("long behind its route", drops.look(0, 0), 5);
        CHECK.due("for ever", drops.ahead(0, Integer.MAX_VALUE), 5);
    }

    /** Of one that is sent, one that waits for it, a comer and an awaited one: what ahead tells comes true. */
    private static void knownFromNowOn() {
        Recorded drops = Recorded.grid(
                "4......5", "1111.111", "........", "6...7...", "........", "........");
        for (int liquid = 0; liquid < 4; liquid++) {
            drops.dispense(liquid);
        }
        drops.send(3, 7, 5);
        drops.send(0, 2, 5);
        drops.join(1, 2);
        int[][] told = new int[4][20];
        for (int d = 0; d < 4; d++) {
            for (int n = 0; n < 20; n++) {
                told[d][n] = drops.ahead(d, n);
            }
        }
        for (int n = 0; n < 20; n++) {
            for (int d = 0; d < 4; d++) {
                CHECK.due("droplet " + d + " in " + n + " steps", Check.answer(lookAt(drops, d)),
                        told[d][n] == -1 ? "throws java.lang.IllegalArgumentException" : String.valueOf(told[d][n]));
            }
            drops.run(1);
        }
        CHECK.due("joined at last", drops.look(2, 1), 2);
    }

    private static Supplier<Integer> lookAt(Recorded drops, int d) {
        return () -> drops.look(d, 0);
    }

    private static void joinedByTheLastMove() {
        Recorded drops = Recorded.grid("4...5...");
        drops.dispense(0);
        drops.dispense(1);
        CHECK.due("moves", drops.join(0, 1), 4);
        drops.run(3);
        CHECK.due("close by, but not joined", drops.droplets(), 2);
        CHECK.due("not joined", drops.look(1, 1), 1);
        CHECK.due("beside it", drops.look(0, 0), 3);
        drops.run(1);
        CHECK.due("joined", drops.droplets(), 1);
        CHECK.due("joined where it awaited the other", drops.look(1, 0), 4);
        CHECK.due("of 2 units", drops.look(1, 1), 2);
    }

    private static void notFreeUpToItsLastMove() {
        Recorded drops = Recorded.grid("4....5..", "........", "....2...");
        drops.dispense(0);
        drops.dispense(1);
        drops.join(0, 1);
        drops.run(5);
        drops.dispense(0);
        drops.send(1, 5, 2);
        drops.run(2);
        CHECK.due("over the sink and back to it", drops.send(1, 4, 2), 1);
        CHECK.refused("one move left: send", drops, IllegalStateException.class, () -> drops.send(1, 5, 2));
        CHECK.refused("one move left: halve", drops, IllegalStateException.class, () -> drops.halve(1, true));
        CHECK.refused("one move left: discard", drops, IllegalStateException.class, () -> drops.discard(1));
        drops.run(1);
        CHECK.due("no move left: send to where it is", drops.send(1, 4, 2), 0);
        CHECK.due("no moves were to make: still free", drops.send(1, 4, 2), 0);
        CHECK.due("still free: discard", drops.discard(1), 2);
    }

    private static void notFreeAsAComer() {
        Recorded drops = Recorded.grid("4.2...5.", "........", "........", "6.......");
        drops.dispense(0);
        drops.dispense(1);
        drops.dispense(2);
        drops.join(0, 1);
        drops.run(2);
        CHECK.due("a comer on a sink", drops.look(0, 0), 2);
        CHECK.refused("a comer: send", drops, IllegalStateException.class, () -> drops.send(0, 0, 0));
        CHECK.refused("a comer: join", drops, IllegalStateException.class, () -> drops.join(0, 2));
        CHECK.refused("a comer: join into it", drops, IllegalStateException.class, () -> drops.join(2, 0));
        CHECK.refused("a comer: discard", drops, IllegalStateException.class, () -> drops.discard(0));
        drops.run(3);
        CHECK.refused("a comer with one move left", drops, IllegalStateException.class, () -> drops.send(0, 0, 0));
    }

    private static void notFreeWhileAwaited() {
        Recorded drops = Recorded.grid("4.....2.", "........", "......5.", "6.......");
        drops.dispense(1);
        drops.send(0, 6, 0);
        drops.run(2);
        drops.dispense(0);
        drops.dispense(2);
        CHECK.due("into the one on the sink", drops.join(1, 0), 6);
        for (int left = 6; left > 0; left--) {
            CHECK.due("moves of the comer", drops.look(1, 2), left);
            CHECK.due("the awaited one has no route", drops.look(0, 2), 0);
            CHECK.refused("awaited: send", drops, IllegalStateException.class, () -> drops.send(0, 6, 0));
            CHECK.refused("awaited: join", drops, IllegalStateException.class, () -> drops.join(0, 2));
            CHECK.refused("awaited: join into it", drops, IllegalStateException.class, () -> drops.join(2, 0));
            CHECK.refused("awaited: discard", drops, IllegalStateException.class, () -> drops.discard(0));
            drops.run(1);
        }
        CHECK.due("awaited no more: send", drops.send(0, 6, 0), 0);
        CHECK.due("awaited no more: discard", drops.discard(0), 2);
    }

    private static void comerIsGone() {
        Recorded drops = Recorded.grid("4..5....");
        drops.dispense(0);
        drops.dispense(1);
        drops.join(0, 1);
        CHECK.due("before", drops.ahead(0, 2), 2);
        CHECK.due("from that time on", drops.ahead(0, 3), -1);
        drops.run(3);
        CHECK.due("droplets", drops.droplets(), 1);
        CHECK.due("ahead", drops.ahead(0, 0), -1);
        CHECK.refused("look", drops, IllegalArgumentException.class, () -> drops.look(0, 0));
        CHECK.refused("send", drops, IllegalArgumentException.class, () -> drops.send(0, 0, 0));
    }

    private static void theAwaitedOneIsLeft() {
        for (int comer = 0; comer < 2; comer++) {
            Recorded drops = Recorded.grid("4...5...");
            drops.dispense(0);
            drops.dispense(1);
            int awaited = 1 - comer;
            drops.join(comer, awaited);
            drops.run(4);
            CHECK.due("its cell", drops.look(awaited, 0), 4 * awaited);
            CHECK.due("its units", drops.look(awaited, 1), 2);
            CHECK.due("it awaits none any more", drops.look(awaited, 4), -1);
            CHECK.due("the comer", drops.ahead(comer, 0), -1);
        }
    }

    /** Droplet 1, of 2 units, at a place of the grid. */
    private static Recorded wholeAt(int place) {
        Recorded drops = Recorded.grid("4..5....");
        drops.dispense(0);
        drops.dispense(1);
        drops.join(0, 1);
        drops.run(3);
        drops.send(1, place % 8, place / 8);
        drops.run(100);
        return drops;
    }

    private static void theWholeIsGone() {
        Recorded drops = wholeAt(20);
        drops.halve(1, true);
        CHECK.due("droplets", drops.droplets(), 2);
        CHECK.due("ahead", drops.ahead(1, 0), -1);
        CHECK.refused("look", drops, IllegalArgumentException.class, () -> drops.look(1, 0));
        CHECK.due("units on the grid", drops.units(2), 2);
    }

    private static void whereTheHalvesAre() {
        for (int place = 0; place < 64; place++) {
            int x = place % 8;
            int y = place / 8;
            halvesOf(place, false, x > 0 && x < 7, 1);
            halvesOf(place, true, y > 0 && y < 7, 8);
        }
    }

    private static void halvesOf(int place, boolean upright, boolean room, int off) {
        Recorded drops = wholeAt(place);
        String what = "halve on " + place + (upright ? " upright" : " side by side");
        if (room) {
            CHECK.due(what, drops.halve(1, upright), 2);
            CHECK.due(what + ", the first one", drops.look(2, 0), place - off);
            CHECK.due(what + ", the second one", drops.look(3, 0), place + off);
        } else {
            CHECK.refused(what, drops, IllegalStateException.class, () -> drops.halve(1, upright));
        }
    }
}
