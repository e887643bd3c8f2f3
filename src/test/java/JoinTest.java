import java.util.NoSuchElementException;

/** Promises 5 and 13: join, share. */
public final class JoinTest {
    private static final Check CHECK = new Check("JoinTest");

    public static void main(String[] args) {
        joined();
        leastMovesFirst();
        pastAThird();
        thirdAtTheEnd();
        twoAtOnce();
        sharesOfFour();
        smallestPower();
        deepShares();
        wrongJoins();
        wrongShares();
        CHECK.end();
    }

    private static void shares(String what, GuardedDrops drops, int d, long... due) {
        for (int i = 0; i < due.length; i++) {
            CHECK.due(what + ": share(" + d + ", " + i + ")", drops.share(d, i), due[i]);
        }
    }

    private static void looks(String what, GuardedDrops drops, int d, int... due) {
        for (int i = 0; i < due.length; i++) {
            CHECK.due(what + ": look(" + d + ", " + i + ")", drops.look(d, i), due[i]);
        }
    }

    private static void joined() {
        GuardedDrops drops = Check.grid("4...5...");
        drops.dispense(0);
        drops.dispense(1);
        CHECK.due("join", drops.join(0, 1), 4);
        looks("the comer", drops, 0, 0, 1, 4, 1, -1);
        looks("the awaited one", drops, 1, 4, 1, 0, -1, 0);
        CHECK.due("nothing is joined yet", drops.droplets(), 2);
        drops.run(3);
        looks("the comer, close by", drops, 0, 3, 1, 1, 1, -1);
        CHECK.due("it will be gone", drops.ahead(0, 1), -1);
        drops.run(1);
        CHECK.due("one is left", drops.droplets(), 1);
        looks("the joined one", drops, 1, 4, 2, 0, -1, -1);
        shares("the joined one", drops, 1, 1, 1, 0, 0, 1);
        CHECK.refused("the comer is gone", drops, IllegalArgumentException.class, () -> drops.look(0, 0));
        CHECK.refused("the comer's share is gone", drops, IllegalArgumentException.class, () -> drops.share(0, 4));
        CHECK.due("units on the grid", drops.units(2), 2);
    }

    private static void leastMovesFirst() {
        GuardedDrops drops = Check.grid("........", "5.......", "........", "..4.....");
        drops.dispense(0);
        drops.dispense(1);
        CHECK.due("join", drops.join(0, 1), 4);
        int[] cells = {26, 18, 10, 9, -1};
        for (int n = 0; n < cells.length; n++) {
            CHECK.due("up before left, past the awaited one: " + n, drops.ahead(0, n), cells[n]);
        }
        CHECK.due("the awaited one rests", drops.ahead(1, 4), 8);
    }

    private static void pastAThird() {
        GuardedDrops drops = Check.grid("4..6..5.", "........", "...11111");
        drops.dispense(0);
        drops.dispense(1);
        drops.dispense(2);
        CHECK.refused("a third in the way", drops, NoSuchElementException.class, () -> drops.join(0, 1));
        CHECK.refused("from the other side", drops, NoSuchElementException.class, () -> drops.join(1, 0));
        drops.send(2, 1, 4);
        CHECK.due("behind the third, which goes away", drops.join(0, 1), 9);
        int[] cells = {0, 0, 0, 0, 1, 2, 3, 4, 5, -1};
        for (int n = 0; n < cells.length; n++) {
            CHECK.due("waits for the third: " + n, drops.ahead(0, n), cells[n]);
        }
        GuardedDrops shut = Check.grid("4.1.5...", "..1.....", "111.....");
        shut.dispense(0);
        shut.dispense(1);
        CHECK.refused("dead cells between", shut, NoSuchElementException.class, () -> shut.join(0, 1));
    }

    /** The third comes to cell 10 just when the comer, then last on cell 1, would come to its goal. */
    private static void thirdAtTheEnd() {
        GuardedDrops drops = Check.grid("4...5...", "........", "........", "........", "........", "..6.....");
        drops.dispense(0);
        drops.dispense(1);
        drops.dispense(2);
        CHECK.due("the third's way", drops.send(2, 2, 1), 4);
        CHECK.due("round the third", drops.join(1, 0), 11);
    }

    private static void twoAtOnce() {
        GuardedDrops drops = Check.grid("4...5...", "........", "........", "6...7...");
        for (int liquid = 0; liquid < 4; liquid++) {
            drops.dispense(liquid);
        }
        CHECK.due("first pair", drops.join(1, 0), 4);
        CHECK.due("second pair", drops.join(2, 3), 4);
        drops.run(4);
        CHECK.due("two are left", drops.droplets(), 2);
        shares("first pair", drops, 0, 1, 1, 0, 0, 1);
        shares("second pair", drops, 3, 0, 0, 1, 1, 1);
        CHECK.due("where the first awaited", drops.look(0, 0), 0);
        CHECK.due("where the second awaited", drops.look(3, 0), 28);
    }

    private static void sharesOfFour() {
        GuardedDrops drops = Check.grid("4...5...", "........", "........", "6...7...");
        for (int liquid = 0; liquid < 4; liquid++) {
            drops.dispense(liquid);
        }
        drops.join(0, 1);
        drops.join(2, 3);
        drops.run(4);
        CHECK.due("halve", drops.halve(1, false), 4);
        CHECK.due("halve", drops.halve(3, false), 6);
        shares("a half", drops, 4, 1, 1, 0, 0, 1);
        shares("a half", drops, 5, 1, 1, 0, 0, 1);
        CHECK.due("join halves", drops.join(4, 6), 3);
        drops.run(3);
        shares("of all four", drops, 6, 1, 1, 1, 1, 2);
        CHECK.due("join the other halves", drops.join(5, 7) > 0, true);
        drops.run(20);
        shares("of all four", drops, 7, 1, 1, 1, 1, 2);
    }

    private static void smallestPower() {
        GuardedDrops drops = Check.grid("4...5...");
        drops.dispense(0);
        drops.send(0, 0, 4);
        drops.run(4);
        drops.dispense(0);
        drops.dispense(1);
        drops.join(1, 0);
        drops.run(4);
        shares("two of one liquid", drops, 0, 1, 0, 0, 0, 0);
        drops.send(0, 4, 4);
        drops.run(4);
        int half = drops.halve(0, true);
        drops.join(2, half);
        drops.run(10);
        shares("a half and another liquid", drops, half, 1, 1, 0, 0, 1);
        drops.send(half + 1, 0, 6);
        drops.run(10);
        int mixed = drops.halve(half, false);
        drops.join(mixed, mixed + 1);
        drops.run(10);
        shares("halves of one droplet", drops, mixed + 1, 1, 1, 0, 0, 1);
    }

    /** Each round joins a fresh droplet with a half of the last one: the power grows by 1 a round. */
    private static void deepShares() {
        GuardedDrops drops = Check.grid("5.......", "........", "...42...");
        drops.dispense(0);
        int mixed = 0;
        for (int round = 1; round <= 18; round++) {
            int fresh = drops.dispense(1);
            drops.join(fresh, mixed);
            drops.run(20);
            shares("round " + round, drops, mixed, 1L, (1L << round) - 1, 0, 0, round);
            int right = drops.halve(mixed, false) + 1;
            drops.discard(right);
            mixed = right - 1;
            drops.send(mixed, 3, 2);
            drops.run(20);
        }
        CHECK.due("units that are left", drops.units(2), 1);
        CHECK.due("units thrown away", drops.units(1), 18);
    }

    private static void wrongJoins() {
        GuardedDrops drops = Check.grid("4.4.4...", "........", "4.4.4...");
        for (int i = 0; i < 6; i++) {
            drops.dispense(0);
        }
        for (int bad : new int[] {-1, 6, Integer.MIN_VALUE, Integer.MAX_VALUE}) {
            CHECK.refused("no first " + bad, drops, IllegalArgumentException.class, () -> drops.join(bad, 0));
            CHECK.refused("no second " + bad, drops, IllegalArgumentException.class, () -> drops.join(0, bad));
        }
        CHECK.refused("the same", drops, IllegalArgumentException.class, () -> drops.join(1, 1));
        CHECK.due("join", drops.join(0, 1), 2);
        CHECK.refused("the same, not free", drops, IllegalArgumentException.class, () -> drops.join(1, 1));
        CHECK.refused("a comer again", drops, IllegalStateException.class, () -> drops.join(0, 2));
        CHECK.refused("an awaited one as comer", drops, IllegalStateException.class, () -> drops.join(1, 2));
        CHECK.refused("into an awaited one", drops, IllegalStateException.class, () -> drops.join(2, 1));
        CHECK.refused("into a comer", drops, IllegalStateException.class, () -> drops.join(3, 0));
        drops.send(5, 7, 7);
        CHECK.refused("one with a route", drops, IllegalStateException.class, () -> drops.join(5, 4));
        CHECK.refused("into one with a route", drops, IllegalStateException.class, () -> drops.join(4, 5));
        drops.run(20);
        CHECK.refused("one that is gone", drops, IllegalArgumentException.class, () -> drops.join(0, 2));
        CHECK.refused("one of 2 units", drops, IllegalStateException.class, () -> drops.join(1, 2));
        CHECK.refused("into one of 2 units", drops, IllegalStateException.class, () -> drops.join(2, 1));
        CHECK.due("others are as free as before", drops.join(4, 3), 2);
    }

    private static void wrongShares() {
        GuardedDrops drops = Check.grid("4.......");
        drops.dispense(0);
        for (int bad : new int[] {-1, 5, Integer.MIN_VALUE, Integer.MAX_VALUE}) {
            CHECK.refused("no such liquid " + bad, drops, IllegalArgumentException.class, () -> drops.share(0, bad));
            CHECK.refused("no such droplet " + bad, drops, IllegalArgumentException.class, () -> drops.share(bad, 0));
        }
    }
}
