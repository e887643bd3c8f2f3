import java.util.NoSuchElementException;

/** The terms "keep clear", "way" and "way into", on which promises 3 to 6 rest. */
public final class WaysTest {
    private static final Check CHECK = new Check("WaysTest");

    public static void main(String[] args) {
        CHECK.sentence("at each of these times their cells are not near", WaysTest::nearAtOneTime);
        CHECK.sentence("at each two of them, one step apart, the cell of either one at one of the two "
                + "is not near the cell of the other one at the other", WaysTest::nearOneStepBefore);
        CHECK.sentence("at each two of them, one step apart, the cell of either one at one of the two "
                + "is not near the cell of the other one at the other", WaysTest::nearOneStepBehind);
        CHECK.sentence("When two are joined the one that came is gone from that time on.", WaysTest::afterAComerIsGone);
        CHECK.sentence("When two are joined the one that came is gone from that time on.", WaysTest::behindAComer);
        CHECK.sentence("A WAY for a droplet to a cell is a row of moves, at most 60", WaysTest::sixtyMovesToACell);
        CHECK.sentence("on which it and all others keep clear of each other from now on", WaysTest::letOutNearTheSixtiethMove);
        CHECK.sentence("keep clear of each other from now on, if it rests on that cell then", WaysTest::sentNearTheSixtiethMove);
        CHECK.sentence("would not keep clear of each other from now on", WaysTest::halvedNearTheThirtiethMove);
        CHECK.sentence("over cells that are not dead", WaysTest::roundDeadCells);
        CHECK.sentence("over cells that are not dead", WaysTest::noWayOutOfDeadCells);
        CHECK.sentence("it and every other droplet, as these have their routes, keep clear of each other from now on", WaysTest::roundOneThatRests);
        CHECK.sentence("it and every other droplet, as these have their routes, keep clear of each other from now on", WaysTest::roundFiveOthers);
        CHECK.sentence("it and every other droplet, as these have their routes, keep clear of each other from now on", WaysTest::noWayPastOneThatRests);
        CHECK.sentence("if it rests on that cell then", WaysTest::notToRestWhereOneWillPass);
        CHECK.sentence("if it rests on that cell then", WaysTest::notToRestWhereOneWillCome);
        CHECK.sentence("A WAY INTO another droplet is a row of moves, at most 60", WaysTest::sixtyMovesIntoADroplet);
        CHECK.sentence("it and every droplet but that one keep clear of each other", WaysTest::nearTheAwaitedOne);
        CHECK.sentence("it and every droplet but that one keep clear of each other", WaysTest::noWayIntoOnePastAThird);
        CHECK.sentence("from now up to the time when it comes there", WaysTest::thirdJustBeforeItComesThere);
        CHECK.sentence("from now up to the time when it comes there", WaysTest::thirdAfterItCameThere);
        CHECK.sentence("When two are joined the one that came is gone from that time on.", WaysTest::comerBehindAComer);
        CHECK.sentence("from now up to the time when it comes there", WaysTest::comerBeforeAComer);
        CHECK.sentence("Of ways the shortest is taken", WaysTest::waitingIsShorter);
        CHECK.sentence("Of ways the shortest is taken", WaysTest::goingRoundIsShorter);
        CHECK.sentence("Of ways the shortest is taken", WaysTest::roundOrNever);
        CHECK.sentence("of these the one with the least move where they differ first", WaysTest::leastMoveFirst);
        CHECK.sentence("of these the one with the least move where they differ first", WaysTest::waitsFirst);
        CHECK.sentence("of these the one with the least move where they differ first", WaysTest::waitsRatherThanGoesRound);
        CHECK.end();
    }

    /** Both turn a corner, on cells 27 and 36; only at the time when both are there are they near. */
    private static void nearAtOneTime() {
        Recorded drops = Recorded.grid(
                "111.1111", "111.1111", "111.1111", "114.1111", "1111.511", "1111.111", "1111.111", "1111.111");
        drops.dispense(0);
        drops.dispense(1);
        CHECK.due("round the one corner", drops.send(1, 4, 7), 4);
        CHECK.due("round the other", drops.send(0, 3, 0), 6);
        CHECK.path("when the first has gone on", drops, 0, 26, 26, 26, 27, 19, 11, 3);
    }

    /** Two cells behind another one it can't follow at once: it would come near where that one was a step before. */
    private static void nearOneStepBefore() {
        Recorded drops = Recorded.grid("4.5.....", "11111111");
        drops.dispense(0);
        drops.dispense(1);
        drops.send(1, 7, 0);
        CHECK.due("following", drops.send(0, 4, 0), 5);
        CHECK.path("following", drops, 0, 0, 0, 1, 2, 3, 4);
        Recorded first = Recorded.grid("4.5.....", "11111111");
        first.dispense(0);
        first.dispense(1);
        first.send(1, 7, 0);
        CHECK.due("near the cell that the other one now leaves", first.send(0, 1, 0), 2);
        CHECK.path("near the cell that the other one now leaves", first, 0, 0, 0, 1);
        Recorded farther = Recorded.grid("4..5....", "11111111");
        farther.dispense(0);
        farther.dispense(1);
        farther.send(1, 7, 0);
        CHECK.due("three cells behind it can", farther.send(0, 5, 0), 5);
    }

    /** Crossing before another one it can't leave a cell that this one comes near with its next move. */
    private static void nearOneStepBehind() {
        Recorded drops = Recorded.grid(
                "11111111", "11111.11", "11111.11", "4.......", "11111.11", "11111511");
        drops.dispense(0);
        drops.dispense(1);
        drops.send(0, 7, 3);
        CHECK.due("crossing behind it", drops.send(1, 5, 1), 11);
        CHECK.path("crossing behind it", drops, 1, 45, 45, 45, 45, 45, 45, 45, 45, 37, 29, 21, 13);
        Recorded farther = Recorded.grid(
                "11111111", "111111.1", "111111.1", "4.......", "111111.1", "11111151");
        farther.dispense(0);
        farther.dispense(1);
        farther.send(0, 7, 3);
        CHECK.due("a column farther it crosses before it", farther.send(1, 6, 1), 4);
    }

    /** The comer is on cell 1 at time 2 and gone at 3; near cell 1 none may be before time 4. */
    private static void afterAComerIsGone() {
        Recorded drops = Recorded.grid("4..5....", "........", "........", "........", "..6.....");
        drops.dispense(0);
        drops.dispense(1);
        drops.dispense(2);
        CHECK.due("into the other", drops.join(1, 0), 3);
        CHECK.due("near the comer's last cell", drops.send(2, 2, 1), 4);
        CHECK.path("two steps after it was there", drops, 2, 34, 34, 26, 18, 10);
    }

    private static void behindAComer() {
        Recorded drops = Recorded.grid("4...5...", "........", "........", "6.......");
        drops.dispense(0);
        drops.dispense(1);
        drops.dispense(2);
        CHECK.due("into the other", drops.join(0, 1), 4);
        CHECK.due("where the comer has been", drops.send(2, 2, 0), 6);
        CHECK.path("behind the comer", drops, 2, 24, 24, 16, 8, 0, 1, 2);
        Recorded before = Recorded.grid("4...5...", "........", "........", "6.......");
        before.dispense(0);
        before.dispense(1);
        before.dispense(2);
        before.join(0, 1);
        CHECK.refused("near the awaited one", before, NoSuchElementException.class, () -> before.send(2, 3, 1));
    }

    private static final String[] CORRIDOR = {
        "4...6...", "11.11111", ".1......", ".111111.", ".1......", ".1.11111", "5.......", "11111111"};

    /** Three droplets go through one corridor, one after another: the last one's way is as long as its goal is far. */
    private static Recorded corridor() {
        Recorded drops = Recorded.grid(CORRIDOR);
        letOutAndSend(drops);
        return drops;
    }

    /** The same, with a source of liquid 3 at the far end. */
    private static Recorded corridorWithSource(int y) {
        Recorded drops = Recorded.grid(CORRIDOR);
        drops.cell(0, y, 7);
        letOutAndSend(drops);
        return drops;
    }

    private static void letOutAndSend(Recorded drops) {
        for (int liquid = 0; liquid < 3; liquid++) {
            drops.dispense(liquid);
        }
        drops.send(0, 7, 6);
        drops.send(1, 0, 0);
    }

    private static void sixtyMovesToACell() {
        for (int y = 6; y >= 4; y--) {
            Recorded drops = corridor();
            CHECK.due("up to 60 moves", drops.send(2, 0, y), 64 - y);
            CHECK.due("moves to make", drops.look(2, 2), 64 - y);
            CHECK.due("before the last one", drops.ahead(2, 63 - y), y == 6 ? 49 : 8 * y + 8);
            CHECK.due("behind the last one", drops.ahead(2, 64 - y), 8 * y);
            drops.run(64 - y);
            CHECK.due("it has come there", drops.look(2, 0), 8 * y);
            CHECK.due("and is free", drops.send(2, 0, y), 0);
        }
        Recorded drops = corridor();
        CHECK.refused("61 moves", drops, NoSuchElementException.class, () -> drops.send(2, 0, 3));
        drops.run(1);
        CHECK.due("60 moves, a step later", drops.send(2, 0, 3), 60);
    }

    private static void sixtyMovesIntoADroplet() {
        Recorded near = corridorWithSource(4);
        near.dispense(3);
        CHECK.due("60 moves", near.join(2, 3), 60);
        CHECK.due("before the last one", near.ahead(2, 59), 40);
        CHECK.due("behind the last one", near.ahead(2, 60), -1);
        near.run(59);
        CHECK.due("not yet joined", near.look(3, 1), 1);
        near.run(1);
        CHECK.due("joined", near.look(3, 1), 2);
        Recorded far = corridorWithSource(3);
        far.dispense(3);
        CHECK.refused("61 moves", far, NoSuchElementException.class, () -> far.join(2, 3));
        far.run(1);
        CHECK.due("60 moves, a step later", far.join(2, 3), 60);
    }

    /** The source is near the last cell of 60 moves, and not near the one before. */
    private static void letOutNearTheSixtiethMove() {
        Recorded drops = corridorWithSource(3);
        CHECK.due("60 moves", drops.send(2, 0, 4), 60);
        CHECK.refused("near where it will be in 60 steps", drops, NoSuchElementException.class, () -> drops.dispense(3));
        drops.run(1);
        CHECK.refused("in 59 steps", drops, NoSuchElementException.class, () -> drops.dispense(3));
        Recorded other = corridorWithSource(3);
        CHECK.due("59 moves", other.send(2, 0, 5), 59);
        CHECK.due("two cells off", other.dispense(3), 3);
    }

    private static void sentNearTheSixtiethMove() {
        Recorded drops = corridorWithSource(2);
        drops.dispense(3);
        CHECK.due("60 moves", drops.send(2, 0, 4), 60);
        CHECK.refused("near where it will be in 60 steps", drops, NoSuchElementException.class, () -> drops.send(3, 0, 3));
        Recorded other = corridorWithSource(2);
        other.dispense(3);
        CHECK.due("59 moves", other.send(2, 0, 5), 59);
        CHECK.due("two cells off", other.send(3, 0, 3), 1);
    }

    /** Droplet 0, of 2 units, rests on cell 40; a lane winds down from droplet 2 to cells 58 and 57. */
    private static Recorded windingLane() {
        Recorded drops = Recorded.grid(
                "4.......", "1111111.", ".1......", "61.11111", ".1......", "5111111.", ".1......", "1..11111");
        drops.dispense(1);
        drops.dispense(2);
        drops.join(1, 0);
        drops.run(2);
        drops.dispense(0);
        return drops;
    }

    /** The lower half would be on cell 48, which is near the last cell of the way, and not near the one before. */
    private static void halvedNearTheThirtiethMove() {
        Recorded drops = windingLane();
        CHECK.due("30 moves", drops.send(2, 1, 7), 30);
        for (int left = 30; left >= 0; left--) {
            CHECK.refused("near where it will be in " + left, drops, IllegalStateException.class, () -> drops.halve(0, true));
            drops.run(1);
        }
        Recorded other = windingLane();
        CHECK.due("29 moves", other.send(2, 2, 7), 29);
        CHECK.due("two cells off", other.halve(0, true), 3);
    }

    private static void roundDeadCells() {
        Recorded drops = Recorded.grid("4.1.....", ".11.....", "..1.....", "1.......", "1.......");
        drops.dispense(0);
        CHECK.due("round the dead cells", drops.send(0, 3, 0), 9);
        CHECK.path("round the dead cells", drops, 0, 0, 8, 16, 17, 25, 26, 27, 19, 11, 3);
        Recorded other = Recorded.grid("4.23....", "1111.111");
        other.dispense(0);
        CHECK.due("over cells of other kinds", other.send(0, 4, 2), 6);
    }

    private static void noWayOutOfDeadCells() {
        Recorded drops = Recorded.grid("4.1.....", "..1.....", "11......");
        drops.dispense(0);
        CHECK.refused("no way out", drops, NoSuchElementException.class, () -> drops.send(0, 3, 0));
        CHECK.refused("not between cells that touch at a corner", drops, NoSuchElementException.class, () -> drops.send(0, 2, 2));
        CHECK.refused("onto a dead cell", drops, NoSuchElementException.class, () -> drops.send(0, 2, 0));
        CHECK.due("within", drops.send(0, 1, 1), 2);
    }

    private static void roundOneThatRests() {
        Recorded drops = Recorded.grid("........", "4...5...");
        drops.dispense(0);
        drops.dispense(1);
        CHECK.due("round another", drops.send(0, 7, 1), 11);
        CHECK.path("up as soon as it is passed", drops, 0, 8, 9, 10, 18, 26, 27, 28, 29, 30, 22, 14, 15);
    }

    private static void roundFiveOthers() {
        Recorded drops = Recorded.grid("7.......", "........", "5.5.55..", "........", "5.5.....");
        for (int i = 0; i < 5; i++) {
            drops.dispense(1);
        }
        CHECK.due("the least sources that are clear of one another", drops.look(4, 0), 34);
        drops.dispense(3);
        CHECK.due("round all five", drops.send(5, 7, 4), 11);
        CHECK.path("along the top and down the side", drops, 5, 0, 1, 2, 3, 4, 5, 6, 7, 15, 23, 31, 39);
    }

    private static void noWayPastOneThatRests() {
        Recorded drops = Recorded.grid("4..5....", "........", "11111111");
        drops.dispense(0);
        drops.dispense(1);
        CHECK.refused("no room beside it", drops, NoSuchElementException.class, () -> drops.send(0, 7, 0));
        CHECK.refused("onto its cell", drops, NoSuchElementException.class, () -> drops.send(0, 3, 0));
        CHECK.refused("near it", drops, NoSuchElementException.class, () -> drops.send(0, 2, 1));
        CHECK.due("two cells off", drops.send(0, 1, 1), 2);
    }

    /** The goal could be reached at time 2, but the other one is near it from time 4 up to time 6. */
    private static void notToRestWhereOneWillPass() {
        Recorded drops = Recorded.grid(
                "111.1111", "111.1111", "4.......", "111.1111", "111.1111", "111.1111", "111.1111", "1115....");
        drops.dispense(1);
        drops.dispense(0);
        CHECK.due("past the goal", drops.send(0, 3, 0), 7);
        CHECK.due("to the goal when it can rest there", drops.send(1, 2, 2), 8);
        CHECK.path("to the goal when it can rest there", drops, 1, 16, 16, 16, 16, 16, 16, 16, 17, 18);
    }

    private static void notToRestWhereOneWillCome() {
        Recorded drops = Recorded.grid("4.......", "........", "........", "5.......");
        drops.dispense(0);
        drops.dispense(1);
        drops.send(0, 7, 0);
        CHECK.refused("to where the other will rest", drops, NoSuchElementException.class, () -> drops.send(1, 7, 0));
        CHECK.refused("near where the other will rest", drops, NoSuchElementException.class, () -> drops.send(1, 6, 1));
        CHECK.due("where the other now is, when it has left", drops.send(1, 0, 0), 4);
        CHECK.path("where the other now is", drops, 1, 24, 24, 16, 8, 0);
    }

    private static void nearTheAwaitedOne() {
        Recorded drops = Recorded.grid("........", "5.......", "........", "..4.....");
        drops.dispense(0);
        drops.dispense(1);
        CHECK.due("join", drops.join(0, 1), 4);
        comerPath(drops, 0, 26, 18, 10, 9);
    }

    private static void noWayIntoOnePastAThird() {
        Recorded drops = Recorded.grid("4..6..5.", "........", "...11111");
        drops.dispense(0);
        drops.dispense(1);
        drops.dispense(2);
        CHECK.refused("a third in the way", drops, NoSuchElementException.class, () -> drops.join(0, 1));
        CHECK.refused("from the other side", drops, NoSuchElementException.class, () -> drops.join(1, 0));
        drops.send(2, 1, 4);
        CHECK.due("behind the third, which goes away", drops.join(0, 1), 9);
        comerPath(drops, 0, 0, 0, 0, 0, 1, 2, 3, 4, 5);
    }

    /** The third comes to cell 10 at time 4, when the comer, then last on cell 1, would come to its goal. */
    private static void thirdJustBeforeItComesThere() {
        Recorded drops = Recorded.grid("4...5...", "........", "........", "........", "........", "..6.....");
        drops.dispense(0);
        drops.dispense(1);
        drops.dispense(2);
        CHECK.due("the third's way", drops.send(2, 2, 1), 4);
        CHECK.due("round the third", drops.join(1, 0), 11);
    }

    /** As before, but the third starts a row lower, and comes to cell 10 at time 5. */
    private static void thirdAfterItCameThere() {
        Recorded drops = Recorded.grid("4...5...", "........", "........", "........", "........", "........", "..6.....");
        drops.dispense(0);
        drops.dispense(1);
        drops.dispense(2);
        CHECK.due("the third's way", drops.send(2, 2, 1), 5);
        CHECK.due("straight on before the third", drops.join(1, 0), 4);
        drops.run(5);
        CHECK.due("joined", drops.look(0, 1), 2);
        CHECK.due("the third has come", drops.look(2, 0), 10);
    }

    /**
     * The first comer is on cell 1 at time 2 and gone at 3. The second one, whose lane leads over cell 10, near
     * cell 1, can't be there at 3: of the two times 2 and 3 the first one has its cell at one, the second at the other.
     */
    private static void comerBehindAComer() {
        Recorded drops = Recorded.grid("5..41111", "11....71", "11.11111", "11.11111", "11611111", "11111111");
        dispenseOneOfEach(drops);
        CHECK.due("the first comer", drops.join(0, 1), 3);
        CHECK.due("the second one waits a step", drops.join(2, 3), 8);
        comerPath(drops, 2, 34, 34, 26, 18, 10, 11, 12, 13);
    }

    /**
     * The first comer is on cell 17 at time 6 and on cell 33, its last one, at 8. The second one could come to its
     * goal at 6, but would be on cell 8, near cell 17, at 5; and on cell 40, near cell 33, it can't be before 10.
     */
    private static void comerBeforeAComer() {
        Recorded drops = Recorded.grid(
                "51111111", ".1111111", ".......6", "..111111", "..711111", ".1111111", "41111111", "11111111");
        dispenseOneOfEach(drops);
        CHECK.due("the first comer", drops.join(2, 3), 9);
        comerPath(drops, 2, 23, 22, 21, 20, 19, 18, 17, 25, 33);
        CHECK.due("the second one waits till the first is gone", drops.join(0, 1), 15);
        comerPath(drops, 0, 48, 48, 48, 48, 48, 48, 48, 48, 48, 48, 40, 32, 24, 16, 8);
    }

    private static void dispenseOneOfEach(Recorded drops) {
        for (int liquid = 0; liquid < 4; liquid++) {
            CHECK.due("of liquid " + liquid, drops.dispense(liquid), liquid);
        }
    }

    private static void comerPath(Recorded drops, int d, int... cells) {
        for (int n = 0; n < cells.length; n++) {
            CHECK.due("the comer's cell in " + n, drops.ahead(d, n), cells[n]);
        }
        CHECK.due("then it is gone", drops.ahead(d, cells.length), -1);
    }

    private static void waitingIsShorter() {
        Recorded drops = Recorded.grid("4.5.....");
        drops.dispense(0);
        drops.dispense(1);
        drops.send(1, 7, 0);
        CHECK.due("a wait and four moves", drops.send(0, 4, 0), 5);
        CHECK.path("a wait and four moves", drops, 0, 0, 0, 1, 2, 3, 4);
    }

    /** The other one comes up column 4 and then leaves: to wait for that would take three steps, not two. */
    private static void goingRoundIsShorter() {
        Recorded drops = Recorded.grid("........", "........", "...4....", "........", "........", "........", "....5...");
        drops.dispense(0);
        drops.dispense(1);
        CHECK.due("up and to the right", drops.send(1, 6, 4), 4);
        CHECK.due("round it", drops.send(0, 3, 7), 7);
        CHECK.path("round it", drops, 0, 19, 18, 26, 34, 35, 43, 51, 59);
    }

    private static void roundOrNever() {
        Recorded drops = Recorded.grid("4..5....");
        drops.dispense(0);
        drops.dispense(1);
        CHECK.due("round one that rests", drops.send(0, 6, 0), 10);
        CHECK.path("two rows down and up again", drops, 0, 0, 1, 9, 17, 18, 19, 20, 21, 13, 5, 6);
    }

    private static void leastMoveFirst() {
        Recorded drops = Recorded.grid("........", "........", "........", "...4....");
        drops.dispense(0);
        CHECK.due("up and right", drops.send(0, 5, 1), 4);
        CHECK.path("up before right", drops, 0, 27, 19, 11, 12, 13);
        drops.run(4);
        CHECK.due("down and right", drops.send(0, 7, 2), 3);
        CHECK.path("right before down", drops, 0, 13, 14, 15, 23);
        drops.run(3);
        CHECK.due("down and left", drops.send(0, 5, 4), 4);
        CHECK.path("down before left", drops, 0, 23, 31, 39, 38, 37);
        drops.run(4);
        CHECK.due("up and left", drops.send(0, 4, 3), 2);
        CHECK.path("up before left", drops, 0, 37, 29, 28);
    }

    /** The first one is on the crossing at time 3 and near cell 18 up to time 4. */
    private static void waitsFirst() {
        Recorded drops = Recorded.grid("111.1111", "111.1111", "4.......", "111.1111", "111.1111", "1115....");
        drops.dispense(1);
        drops.dispense(0);
        CHECK.due("through the crossing", drops.send(0, 3, 0), 5);
        CHECK.due("behind it", drops.send(1, 7, 2), 11);
        CHECK.path("waits at once, as 0 is the least move", drops, 1, 16, 16, 16, 16, 16, 17, 18, 19, 20, 21, 22, 23);
    }

    /** Two waits are as long as going round; 0 is less than any other first move. */
    private static void waitsRatherThanGoesRound() {
        Recorded drops = Recorded.grid("", "", "", "", "", "..4.5...");
        drops.dispense(0);
        drops.dispense(1);
        CHECK.due("down and to the left", drops.send(1, 3, 7), 3);
        CHECK.due("behind it", drops.send(0, 6, 5), 6);
        CHECK.path("waits rather than goes round", drops, 0, 42, 42, 42, 43, 44, 45, 46);
    }
}
