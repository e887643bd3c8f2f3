/** Promise 13: share, with the terms about shares. */
public final class ShareTest {
    private static final Check CHECK = new Check("ShareTest");

    public static void main(String[] args) {
        CHECK.sentence("SHARES of the four liquids, which together are 1", ShareTest::oneOfEachLiquid);
        CHECK.sentence("SHARES of the four liquids, which together are 1", ShareTest::allFourLiquids);
        CHECK.sentence("over one power of 2 that is as small as can be", ShareTest::powerOfOneLiquid);
        CHECK.sentence("over one power of 2 that is as small as can be", ShareTest::powerOfEqualHalves);
        CHECK.sentence("over one power of 2 that is as small as can be", ShareTest::powerThatFallsByTwo);
        CHECK.sentence("over one power of 2 that is as small as can be", ShareTest::greatestPower);
        CHECK.sentence("each share half the sum of both", ShareTest::powersThatDiffer);
        CHECK.sentence("two new ones of 1 unit each, with its shares", ShareTest::halvesHaveItsShares);
        CHECK.sentence("The numerator of a droplet's share of a liquid (0 .. 3), or, for 4, the exponent of the power of 2.", ShareTest::whileItMoves);
        CHECK.sentence("IllegalArgumentException: there is no such droplet", ShareTest::noSuchDroplet);
        CHECK.sentence("or liquid is not 0 .. 4", ShareTest::noSuchLiquid);
        CHECK.end();
    }

    private static void go(Recorded drops, int d, int x, int y) {
        drops.send(d, x, y);
        drops.run(60);
    }

    private static void meet(Recorded drops, int d, int e) {
        drops.join(d, e);
        drops.run(60);
    }

    private static void oneOfEachLiquid() {
        Recorded drops = Recorded.grid("4.5.6.7.");
        for (int liquid = 0; liquid < 4; liquid++) {
            drops.dispense(liquid);
        }
        CHECK.shares("liquid 0", drops, 0, 1, 0, 0, 0, 0);
        CHECK.shares("liquid 1", drops, 1, 0, 1, 0, 0, 0);
        CHECK.shares("liquid 2", drops, 2, 0, 0, 1, 0, 0);
        CHECK.shares("liquid 3", drops, 3, 0, 0, 0, 1, 0);
    }

    private static void allFourLiquids() {
        Recorded drops = Recorded.grid("4...5...", "........", "........", "6...7...");
        for (int liquid = 0; liquid < 4; liquid++) {
            drops.dispense(liquid);
        }
        meet(drops, 0, 1);
        meet(drops, 2, 3);
        drops.halve(1, false);
        drops.halve(3, false);
        meet(drops, 4, 6);
        CHECK.shares("all four", drops, 6, 1, 1, 1, 1, 2);
        meet(drops, 5, 7);
        CHECK.shares("all four", drops, 7, 1, 1, 1, 1, 2);
    }

    private static void powerOfOneLiquid() {
        Recorded drops = Recorded.grid("7..7....");
        drops.dispense(3);
        drops.dispense(3);
        meet(drops, 0, 1);
        CHECK.shares("two of one liquid", drops, 1, 0, 0, 0, 1, 0);
    }

    private static void powerOfEqualHalves() {
        Recorded drops = Recorded.grid("........", "6..7....");
        drops.dispense(2);
        drops.dispense(3);
        meet(drops, 0, 1);
        drops.halve(1, false);
        meet(drops, 2, 3);
        CHECK.shares("halves of one droplet, joined again", drops, 3, 0, 0, 1, 1, 1);
    }

    /** 3/4 and 1/4 with 1/4 and 3/4 make 4/8 and 4/8, which is 1/2 and 1/2. */
    private static void powerThatFallsByTwo() {
        Recorded drops = Recorded.grid("4......5");
        drops.dispense(0);
        go(drops, 0, 3, 4);
        drops.dispense(1);
        meet(drops, 1, 0);
        drops.halve(0, false);
        go(drops, 3, 6, 4);
        drops.dispense(0);
        drops.dispense(1);
        meet(drops, 4, 2);
        meet(drops, 5, 3);
        CHECK.shares("three quarters of 0", drops, 2, 3, 1, 0, 0, 2);
        CHECK.shares("three quarters of 1", drops, 3, 1, 3, 0, 0, 2);
        drops.halve(2, true);
        drops.halve(3, true);
        meet(drops, 6, 8);
        CHECK.shares("both", drops, 8, 1, 1, 0, 0, 1);
        meet(drops, 9, 7);
        CHECK.shares("both, the other way round", drops, 7, 1, 1, 0, 0, 1);
    }

    /**
     * Three droplets: the left half of one is joined with the third, again and again, at 4, 3 and at
     * 4, 7 by turns. Each time the power grows by 1, up to 29, which is as far as 60 droplets go.
     */
    private static void greatestPower() {
        Recorded drops = Recorded.grid("4..5...6");
        drops.dispense(0);
        go(drops, 0, 4, 3);
        drops.dispense(2);
        go(drops, 1, 4, 7);
        drops.dispense(1);
        meet(drops, 2, 0);
        long[] kept = {0, 0, 1, 0};
        long[] mixed = {1, 1, 0, 0};
        int whole = 0;
        int third = 1;
        for (int power = 2; power <= 29; power++) {
            int left = drops.halve(whole, false);
            meet(drops, left, third);
            go(drops, left + 1, 4, power % 2 == 0 ? 3 : 7);
            long[] sum = sum(mixed, kept);
            CHECK.shares("power " + power, drops, third, sum[0], sum[1], sum[2], sum[3], power);
            kept = mixed;
            mixed = sum;
            whole = third;
            third = left + 1;
        }
        CHECK.due("droplets that were", third, 58);
        int last = whole;
        CHECK.refused("a further halving", drops, IllegalStateException.class, () -> drops.halve(last, false));
    }

    /** The one droplet's numerators are over a power that is 1 more than the other's. */
    private static long[] sum(long[] high, long[] low) {
        long[] sum = new long[4];
        for (int i = 0; i < 4; i++) {
            sum[i] = high[i] + 2 * low[i];
        }
        return sum;
    }

    /** Each round joins a fresh droplet and a half of the last one, in one order and in the other by turns. */
    private static void powersThatDiffer() {
        Recorded drops = Recorded.grid("5.......", "........", "...42...");
        int mixed = drops.dispense(0);
        for (int round = 1; round <= 19; round++) {
            int fresh = drops.dispense(1);
            int whole = round % 2 == 0 ? fresh : mixed;
            meet(drops, fresh + mixed - whole, whole);
            CHECK.shares("round " + round, drops, whole, 1L, (1L << round) - 1, 0, 0, round);
            go(drops, whole, 3, 2);
            mixed = drops.halve(whole, false);
            drops.discard(mixed + 1);
            go(drops, mixed, 3, 2);
        }
        CHECK.due("units thrown away", drops.units(1), 19);
    }

    private static void halvesHaveItsShares() {
        for (int upright = 0; upright < 2; upright++) {
            Recorded drops = Recorded.grid("........", "6..7....");
            drops.dispense(2);
            drops.dispense(3);
            meet(drops, 0, 1);
            drops.halve(1, upright == 1);
            CHECK.shares("the first half", drops, 2, 0, 0, 1, 1, 1);
            CHECK.shares("the second half", drops, 3, 0, 0, 1, 1, 1);
        }
    }

    private static void whileItMoves() {
        Recorded drops = Recorded.grid("5......6");
        drops.dispense(1);
        drops.dispense(2);
        drops.join(0, 1);
        CHECK.shares("a comer", drops, 0, 0, 1, 0, 0, 0);
        CHECK.shares("an awaited one", drops, 1, 0, 0, 1, 0, 0);
        drops.run(6);
        CHECK.shares("a comer, a move before", drops, 0, 0, 1, 0, 0, 0);
        CHECK.shares("an awaited one, a move before", drops, 1, 0, 0, 1, 0, 0);
        drops.run(1);
        CHECK.shares("joined", drops, 1, 0, 1, 1, 0, 1);
        drops.send(1, 0, 0);
        drops.run(3);
        CHECK.shares("on its way", drops, 1, 0, 1, 1, 0, 1);
    }

    private static void noSuchDroplet() {
        Recorded drops = Recorded.grid("4..5...2");
        drops.dispense(0);
        drops.dispense(1);
        for (int bad : new int[] {-1, 2, 60, Integer.MIN_VALUE, Integer.MAX_VALUE}) {
            for (int liquid = 0; liquid <= 4; liquid++) {
                int which = liquid;
                CHECK.refused("share(" + bad + ", " + liquid + ")", drops, IllegalArgumentException.class, () -> drops.share(bad, which));
            }
        }
        meet(drops, 0, 1);
        CHECK.refused("gone by joining", drops, IllegalArgumentException.class, () -> drops.share(0, 0));
        go(drops, 1, 7, 0);
        drops.discard(1);
        CHECK.refused("thrown away", drops, IllegalArgumentException.class, () -> drops.share(1, 4));
    }

    private static void noSuchLiquid() {
        Recorded drops = Recorded.grid("4.......");
        drops.dispense(0);
        for (int bad : new int[] {-1, 5, Integer.MIN_VALUE, Integer.MAX_VALUE}) {
            CHECK.refused("share(0, " + bad + ")", drops, IllegalArgumentException.class, () -> drops.share(0, bad));
            CHECK.refused("share(1, " + bad + ")", drops, IllegalArgumentException.class, () -> drops.share(1, bad));
        }
    }
}
