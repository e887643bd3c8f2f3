import java.util.NoSuchElementException;

/** Promise 4: send, and with it the ways of the terms. */
public final class SendTest {
    private static final Check CHECK = new Check("SendTest");

    public static void main(String[] args) {
        leastMovesFirst();
        noMoves();
        roundTheDead();
        aroundOneThatRests();
        waitingForOneThatPasses();
        notToRestWhereOneWillPass();
        notToWhereOneWillCome();
        comerAndAwaited();
        stepApart();
        sixtyMoves();
        wrongCalls();
        CHECK.end();
    }

    private static void path(String what, GuardedDrops drops, int d, int... cells) {
        for (int n = 0; n < cells.length; n++) {
            CHECK.due(what + ": the cell in " + n + " steps", drops.ahead(d, n), cells[n]);
        }
        int last = cells[cells.length - 1];
        CHECK.due(what + ": it rests then", drops.ahead(d, cells.length), last);
        CHECK.due(what + ": for ever", drops.ahead(d, Integer.MAX_VALUE), last);
    }

    private static void leastMovesFirst() {
        GuardedDrops drops = Check.grid("........", "........", "........", "...4....");
        drops.dispense(0);
        CHECK.due("up and right", drops.send(0, 5, 1), 4);
        path("up before right", drops, 0, 27, 19, 11, 12, 13);
        drops.run(4);
        CHECK.due("down and right", drops.send(0, 7, 2), 3);
        path("right before down", drops, 0, 13, 14, 15, 23);
        drops.run(3);
        CHECK.due("down and left", drops.send(0, 5, 4), 4);
        path("down before left", drops, 0, 23, 31, 39, 38, 37);
        drops.run(4);
        CHECK.due("up and left", drops.send(0, 4, 3), 2);
        path("up before left", drops, 0, 37, 29, 28);
    }

    private static void noMoves() {
        GuardedDrops drops = Check.grid("4.......");
        drops.dispense(0);
        CHECK.due("to its own cell", drops.send(0, 0, 0), 0);
        CHECK.due("moves to make", drops.look(0, 2), 0);
        CHECK.due("it is still free", drops.send(0, 1, 0), 1);
        drops.run(1);
        CHECK.due("behind its route it is free again", drops.send(0, 0, 0), 1);
    }

    private static void roundTheDead() {
        GuardedDrops drops = Check.grid("4.1.....", ".11.....", "..1.....", "1.......", "1.......");
        drops.dispense(0);
        CHECK.due("round the dead cells", drops.send(0, 3, 0), 9);
        path("round the dead cells", drops, 0, 0, 8, 16, 17, 25, 26, 27, 19, 11, 3);
        GuardedDrops shut = Check.grid("4.1.....", "..1.....", "11......");
        shut.dispense(0);
        CHECK.refused("no way out", shut, NoSuchElementException.class, () -> shut.send(0, 3, 0));
        CHECK.refused("onto a dead cell", shut, NoSuchElementException.class, () -> shut.send(0, 2, 0));
        CHECK.due("within", shut.send(0, 1, 1), 2);
    }

    private static void aroundOneThatRests() {
        GuardedDrops drops = Check.grid("........", "4...5...");
        drops.dispense(0);
        drops.dispense(1);
        CHECK.due("round another", drops.send(0, 7, 1), 11);
        path("round another, up as soon as it is passed", drops, 0, 8, 9, 10, 18, 26, 27, 28, 29, 30, 22, 14, 15);
        GuardedDrops narrow = Check.grid("4..5....", "........", "11111111");
        narrow.dispense(0);
        narrow.dispense(1);
        CHECK.refused("no room beside it", narrow, NoSuchElementException.class, () -> narrow.send(0, 7, 0));
        CHECK.refused("not near it", narrow, NoSuchElementException.class, () -> narrow.send(0, 2, 1));
        CHECK.due("up to it", narrow.send(0, 1, 1), 2);
    }

    /** The first one is on the crossing at time 3 and near cell 18 up to time 4. */
    private static void waitingForOneThatPasses() {
        GuardedDrops drops = Check.grid("111.1111", "111.1111", "4.......", "111.1111", "111.1111", "1115....");
        drops.dispense(1);
        drops.dispense(0);
        CHECK.due("through the crossing", drops.send(0, 3, 0), 5);
        CHECK.due("behind it", drops.send(1, 7, 2), 11);
        path("waits at once, as 0 is the least move", drops, 1, 16, 16, 16, 16, 16, 17, 18, 19, 20, 21, 22, 23);
    }

    /** The goal could be reached at time 2, but the other one is near it from time 4 up to time 6. */
    private static void notToRestWhereOneWillPass() {
        GuardedDrops drops = Check.grid(
                "111.1111", "111.1111", "4.......", "111.1111", "111.1111", "111.1111", "111.1111", "1115....");
        drops.dispense(1);
        drops.dispense(0);
        CHECK.due("past the goal", drops.send(0, 3, 0), 7);
        CHECK.due("to the goal when it can rest there", drops.send(1, 2, 2), 8);
        path("to the goal when it can rest there", drops, 1, 16, 16, 16, 16, 16, 16, 16, 17, 18);
    }

    private static void notToWhereOneWillCome() {
        GuardedDrops drops = Check.grid("4.......", "........", "........", "5.......");
        drops.dispense(0);
        drops.dispense(1);
        drops.send(0, 7, 0);
        CHECK.refused("to where the other will rest", drops, NoSuchElementException.class, () -> drops.send(1, 7, 0));
        CHECK.refused("near where the other will rest", drops, NoSuchElementException.class, () -> drops.send(1, 6, 1));
        CHECK.due("where the other now is, when it has left", drops.send(1, 0, 0), 4);
        path("where the other now is", drops, 1, 24, 24, 16, 8, 0);
    }

    /** Others keep clear of the comer till it is gone, and of the awaited one for ever. */
    private static void comerAndAwaited() {
        GuardedDrops drops = Check.grid("4...5...", "........", "........", "6.......");
        drops.dispense(0);
        drops.dispense(1);
        drops.dispense(2);
        CHECK.due("into the other", drops.join(0, 1), 4);
        CHECK.refused("near the awaited one", drops, NoSuchElementException.class, () -> drops.send(2, 3, 1));
        CHECK.due("where the comer has been", drops.send(2, 2, 0), 6);
        path("behind the comer", drops, 2, 24, 24, 16, 8, 0, 1, 2);
        CHECK.due("the comer's last cell", drops.ahead(0, 3), 3);
        CHECK.due("the comer is gone", drops.ahead(0, 4), -1);
    }

    /** The comer is on cell 1 at time 2 and gone at 3; near cell 1 none may be before time 4. */
    private static void stepApart() {
        GuardedDrops drops = Check.grid("4..5....", "........", "........", "........", "..6.....");
        drops.dispense(0);
        drops.dispense(1);
        drops.dispense(2);
        CHECK.due("into the other", drops.join(1, 0), 3);
        CHECK.due("not near the comer's last cell at the next time", drops.send(2, 2, 1), 4);
        path("a step later", drops, 2, 34, 34, 26, 18, 10);
    }

    /** Three droplets through one corridor, one after another: the last one's way is as long as its goal is far. */
    private static GuardedDrops corridor() {
        GuardedDrops drops = Check.grid(
                "4...6...", "11.11111", ".1......", ".111111.", ".1......", ".1.11111", "5.......", "11111111");
        drops.dispense(0);
        drops.dispense(1);
        drops.dispense(2);
        drops.send(0, 7, 6);
        drops.send(1, 0, 0);
        return drops;
    }

    private static void sixtyMoves() {
        for (int y = 6; y >= 4; y--) {
            int goal = y;
            GuardedDrops drops = corridor();
            CHECK.due("up to 60 moves", drops.send(2, 0, goal), 64 - goal);
            CHECK.due("before the last one", drops.ahead(2, 63 - goal) == 8 * goal, false);
            CHECK.due("behind the last one", drops.ahead(2, 64 - goal), 8 * goal);
            drops.run(64 - goal);
            CHECK.due("it has come there", drops.look(2, 0), 8 * goal);
            CHECK.due("free again", drops.send(2, 0, goal), 0);
        }
        GuardedDrops drops = corridor();
        CHECK.refused("61 moves", drops, NoSuchElementException.class, () -> drops.send(2, 0, 3));
        drops.run(1);
        CHECK.due("60 moves, a step later", drops.send(2, 0, 3), 60);
    }

    private static void wrongCalls() {
        GuardedDrops drops = Check.grid("4...5...");
        drops.dispense(0);
        drops.dispense(1);
        for (int bad : new int[] {-1, 8, Integer.MIN_VALUE, Integer.MAX_VALUE}) {
            CHECK.refused("no such droplet " + bad, drops, IllegalArgumentException.class, () -> drops.send(bad, 0, 0));
            CHECK.refused("no such x " + bad, drops, IllegalArgumentException.class, () -> drops.send(0, bad, 0));
            CHECK.refused("no such y " + bad, drops, IllegalArgumentException.class, () -> drops.send(0, 0, bad));
        }
        drops.send(0, 0, 4);
        CHECK.refused("it has a route", drops, IllegalStateException.class, () -> drops.send(0, 0, 4));
        CHECK.refused("it has a route, and there is no way", drops, IllegalStateException.class, () -> drops.send(0, 4, 0));
        CHECK.refused("it has a route, and there is no cell", drops, IllegalArgumentException.class, () -> drops.send(0, 0, 8));
        drops.run(4);
        drops.join(0, 1);
        CHECK.refused("it leads into another", drops, IllegalStateException.class, () -> drops.send(0, 0, 0));
        CHECK.refused("it is awaited", drops, IllegalStateException.class, () -> drops.send(1, 7, 7));
        CHECK.refused("it is awaited, and has no moves to make", drops, IllegalStateException.class, () -> drops.send(1, 4, 0));
        drops.run(20);
        CHECK.refused("it is gone", drops, IllegalArgumentException.class, () -> drops.send(0, 0, 0));
        CHECK.due("the joined one is free", drops.send(1, 0, 0), 4);
    }
}
