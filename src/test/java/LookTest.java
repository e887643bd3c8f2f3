/** Promises 10, 11 and 12: droplets, look, ahead. */
public final class LookTest {
    private static final Check CHECK = new Check("LookTest");

    public static void main(String[] args) {
        onItsWay();
        intoAnother();
        howMany();
        wrongCalls();
        CHECK.end();
    }

    private static void looks(GuardedDrops drops, int d, int... due) {
        for (int what = 0; what < due.length; what++) {
            CHECK.due("look(" + d + ", " + what + ")", drops.look(d, what), due[what]);
        }
    }

    private static void onItsWay() {
        GuardedDrops drops = Check.grid("........", ".4......");
        drops.dispense(0);
        looks(drops, 0, 9, 1, 0, -1, -1);
        CHECK.due("ahead when it rests", drops.ahead(0, 1000), 9);
        drops.send(0, 3, 2);
        int[] cells = {9, 10, 11, 19};
        for (int step = 0; step < cells.length; step++) {
            looks(drops, 0, cells[step], 1, 3 - step, -1, -1);
            for (int n = 0; step + n < cells.length; n++) {
                CHECK.due("ahead " + n + " at step " + step, drops.ahead(0, n), cells[step + n]);
            }
            CHECK.due("ahead of all", drops.ahead(0, Integer.MAX_VALUE), 19);
            drops.run(1);
        }
        looks(drops, 0, 19, 1, 0, -1, -1);
    }

    private static void intoAnother() {
        GuardedDrops drops = Check.grid("4..5....");
        drops.dispense(0);
        drops.dispense(1);
        drops.join(1, 0);
        looks(drops, 0, 0, 1, 0, -1, 1);
        looks(drops, 1, 3, 1, 3, 0, -1);
        int[] cells = {3, 2, 1, -1, -1};
        for (int n = 0; n < cells.length; n++) {
            CHECK.due("the comer, ahead " + n, drops.ahead(1, n), cells[n]);
            CHECK.due("the awaited one, ahead " + n, drops.ahead(0, n), 0);
        }
        CHECK.due("the comer, for ever", drops.ahead(1, Integer.MAX_VALUE), -1);
        drops.run(3);
        looks(drops, 0, 0, 2, 0, -1, -1);
        CHECK.due("the comer, now", drops.ahead(1, 0), -1);
    }

    private static void howMany() {
        GuardedDrops drops = Check.grid("4..5...2");
        CHECK.due("droplets", drops.droplets(), 0);
        drops.dispense(0);
        CHECK.due("droplets", drops.droplets(), 1);
        drops.dispense(1);
        CHECK.due("droplets", drops.droplets(), 2);
        drops.join(0, 1);
        drops.run(2);
        CHECK.due("droplets before they are joined", drops.droplets(), 2);
        drops.run(1);
        CHECK.due("droplets, joined", drops.droplets(), 1);
        drops.send(1, 5, 1);
        drops.run(3);
        drops.halve(1, false);
        CHECK.due("droplets, halved", drops.droplets(), 2);
        drops.send(3, 7, 0);
        drops.run(2);
        drops.discard(3);
        CHECK.due("droplets, one thrown away", drops.droplets(), 1);
    }

    private static void wrongCalls() {
        GuardedDrops drops = Check.grid("4..5....");
        drops.dispense(0);
        for (int bad : new int[] {-1, 5, Integer.MIN_VALUE, Integer.MAX_VALUE}) {
            CHECK.refused("look(0, " + bad + ")", drops, IllegalArgumentException.class, () -> drops.look(0, bad));
            CHECK.refused("look(" + bad + ", 0)", drops, IllegalArgumentException.class, () -> drops.look(bad, 0));
            CHECK.due("ahead of no droplet " + bad, drops.ahead(bad, 0), -1);
        }
        CHECK.due("ahead by less than 0", drops.ahead(0, -1), -1);
        CHECK.due("ahead by far less than 0", drops.ahead(0, Integer.MIN_VALUE), -1);
    }
}
