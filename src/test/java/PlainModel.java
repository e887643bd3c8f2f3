import java.math.BigInteger;
import java.util.ArrayList;
import java.util.List;
import java.util.NoSuchElementException;

/** The document's words, followed as literally and as slowly as can be, to hold the class against. */
final class PlainModel implements Drops {
    private static final int NONE = -1;
    /** Shares are held over this power of 2, which no run of joins can exceed. */
    private static final int DEEP = 200;
    /** So far ahead every route has long ended. */
    private static final int FOR_EVER = 130;

    private static final class Drop {
        int number;
        int cell;
        int units = 1;
        BigInteger[] shares = new BigInteger[4];
        List<Integer> route = new ArrayList<>();
        int into = NONE;
        int awaits = NONE;

        boolean free() {
            return route.isEmpty() && awaits == NONE;
        }
    }

    private final int[] kinds = new int[64];
    private final List<Drop> drops = new ArrayList<>();
    private final List<int[]> readings = new ArrayList<>();
    private int made = 0;
    private int time = 0;
    private int letOut = 0;
    private int thrown = 0;

    @Override
    public boolean cell(int x, int y, int kind) {
        if (!inGrid(x, y) || kind < 0 || kind > 7 || !drops.isEmpty()) {
            return false;
        }
        kinds[8 * y + x] = kind;
        return true;
    }

    @Override
    public int dispense(int liquid) {
        if (liquid < 0 || liquid > 3) {
            throw new IllegalArgumentException();
        }
        int place = NONE;
        for (int c = 63; c >= 0; c--) {
            if (kinds[c] == 4 + liquid && restsClear(c, null)) {
                place = c;
            }
        }
        if (place == NONE) {
            throw new NoSuchElementException();
        }
        if (drops.size() == 6 || made == 60) {
            throw new IllegalStateException();
        }
        BigInteger[] shares = {BigInteger.ZERO, BigInteger.ZERO, BigInteger.ZERO, BigInteger.ZERO};
        shares[liquid] = BigInteger.ONE.shiftLeft(DEEP);
        letOut++;
        return add(place, shares);
    }

    @Override
    public int send(int d, int x, int y) {
        Drop drop = find(d);
        if (drop == null || !inGrid(x, y)) {
            throw new IllegalArgumentException();
        }
        if (!drop.free()) {
            throw new IllegalStateException();
        }
        List<Integer> way = way(drop, 8 * y + x, null);
        if (way == null) {
            throw new NoSuchElementException();
        }
        drop.route = way;
        return way.size();
    }

    @Override
    public int join(int d, int e) {
        Drop comer = find(d);
        Drop awaited = find(e);
        if (comer == null || awaited == null || comer == awaited) {
            throw new IllegalArgumentException();
        }
        if (!comer.free() || !awaited.free() || comer.units != 1 || awaited.units != 1) {
            throw new IllegalStateException();
        }
        List<Integer> way = way(comer, awaited.cell, awaited);
        if (way == null) {
            throw new NoSuchElementException();
        }
        comer.route = way;
        comer.into = e;
        awaited.awaits = d;
        return way.size();
    }

    @Override
    public int halve(int d, boolean upright) {
        Drop drop = find(d);
        if (drop == null) {
            throw new IllegalArgumentException();
        }
        int first = moved(drop.cell, upright ? 1 : 4);
        int second = moved(drop.cell, upright ? 3 : 2);
        if (!drop.free() || drop.units != 2 || drops.size() == 6 || made > 58
                || first == NONE || second == NONE || kinds[first] == 1 || kinds[second] == 1
                || !restsClear(first, drop) || !restsClear(second, drop)) {
            throw new IllegalStateException();
        }
        drops.remove(drop);
        int number = add(first, drop.shares.clone());
        add(second, drop.shares.clone());
        return number;
    }

    @Override
    public int discard(int d) {
        Drop drop = find(d);
        if (drop == null) {
            throw new IllegalArgumentException();
        }
        if (!drop.free() || kinds[drop.cell] != 2) {
            throw new IllegalStateException();
        }
        drops.remove(drop);
        thrown += drop.units;
        return drop.units;
    }

    @Override
    public int run(int n) {
        if (n < 0 || n > 100) {
            throw new IllegalArgumentException();
        }
        int read = 0;
        for (int i = 0; i < n; i++) {
            read += step();
        }
        return read;
    }

    private int step() {
        time++;
        List<Drop> moved = new ArrayList<>();
        for (Drop drop : drops) {
            if (!drop.route.isEmpty()) {
                int move = drop.route.remove(0);
                drop.cell = moved(drop.cell, move);
                if (move != 0) {
                    moved.add(drop);
                }
            }
        }
        for (Drop drop : new ArrayList<>(drops)) {
            if (drop.into != NONE && drop.route.isEmpty()) {
                mix(find(drop.into), drop);
                drops.remove(drop);
                moved.remove(drop);
            }
        }
        int read = 0;
        for (Drop drop : moved) {
            if (kinds[drop.cell] == 3) {
                readings.add(new int[] {drop.number, time, drop.cell, drop.units});
                read++;
            }
        }
        return read;
    }

    private static void mix(Drop awaited, Drop comer) {
        for (int i = 0; i < 4; i++) {
            awaited.shares[i] = awaited.shares[i].add(comer.shares[i]).shiftRight(1);
        }
        awaited.units = 2;
        awaited.awaits = NONE;
    }

    @Override
    public int time() {
        return time;
    }

    @Override
    public int droplets() {
        return drops.size();
    }

    @Override
    public int look(int d, int what) {
        Drop drop = find(d);
        if (drop == null || what < 0 || what > 4) {
            throw new IllegalArgumentException();
        }
        return new int[] {drop.cell, drop.units, drop.route.size(), drop.into, drop.awaits}[what];
    }

    @Override
    public int ahead(int d, int n) {
        Drop drop = find(d);
        return drop == null || n < 0 ? NONE : at(drop, n);
    }

    @Override
    public long share(int d, int liquid) {
        Drop drop = find(d);
        if (drop == null || liquid < 0 || liquid > 4) {
            throw new IllegalArgumentException();
        }
        int spare = DEEP;
        for (BigInteger share : drop.shares) {
            if (share.signum() != 0) {
                spare = Math.min(spare, share.getLowestSetBit());
            }
        }
        return liquid == 4 ? DEEP - spare : drop.shares[liquid].shiftRight(spare).longValueExact();
    }

    @Override
    public int reading(int i, int what) {
        int kept = Math.min(50, readings.size());
        if (i < 0 || i >= kept || what < 0 || what > 3) {
            throw new IndexOutOfBoundsException();
        }
        return readings.get(readings.size() - kept + i)[what];
    }

    @Override
    public int units(int what) {
        int onGrid = 0;
        for (Drop drop : drops) {
            onGrid += drop.units;
        }
        return what == 0 ? letOut : what == 1 ? thrown : onGrid;
    }

    @Override
    public int kind(int x, int y) {
        return inGrid(x, y) ? kinds[8 * y + x] : NONE;
    }

    @Override
    public PlainModel again() {
        return this;
    }

    private int add(int place, BigInteger[] shares) {
        Drop drop = new Drop();
        drop.number = made;
        drop.cell = place;
        drop.shares = shares;
        drops.add(drop);
        made++;
        return drop.number;
    }

    private Drop find(int number) {
        for (Drop drop : drops) {
            if (drop.number == number) {
                return drop;
            }
        }
        return null;
    }

    private static boolean inGrid(int x, int y) {
        return x >= 0 && x <= 7 && y >= 0 && y <= 7;
    }

    private static int moved(int cell, int move) {
        int x = cell % 8 + (move == 2 ? 1 : move == 4 ? -1 : 0);
        int y = cell / 8 + (move == 3 ? 1 : move == 1 ? -1 : 0);
        return inGrid(x, y) ? 8 * y + x : NONE;
    }

    /** Where a droplet is at a time from now, NONE when it is gone then. */
    private static int at(Drop drop, int t) {
        if (drop.into != NONE && t >= drop.route.size()) {
            return NONE;
        }
        return at(drop.cell, drop.route, t);
    }

    private static int at(int start, List<Integer> moves, int t) {
        int cell = start;
        for (int i = 0; i < t && i < moves.size(); i++) {
            cell = moved(cell, moves.get(i));
        }
        return cell;
    }

    private static boolean near(int a, int b) {
        return a != NONE && b != NONE && Math.abs(a % 8 - b % 8) <= 1 && Math.abs(a / 8 - b / 8) <= 1;
    }

    /** Whether one that makes these moves, and then rests, keeps clear of another from a time up to a time. */
    private static boolean clear(int start, List<Integer> moves, Drop other, int from, int to) {
        for (int t = from; t <= to; t++) {
            if (near(at(start, moves, t), at(other, t))) {
                return false;
            }
            if (t < to && (near(at(start, moves, t), at(other, t + 1)) || near(at(start, moves, t + 1), at(other, t)))) {
                return false;
            }
        }
        return true;
    }

    private boolean clearOfAll(int start, List<Integer> moves, Drop self, Drop awaited, int from, int to) {
        for (Drop other : drops) {
            if (other != self && other != awaited && !clear(start, moves, other, from, to)) {
                return false;
            }
        }
        return true;
    }

    private boolean restsClear(int cell, Drop self) {
        return clearOfAll(cell, List.of(), self, null, 0, FOR_EVER);
    }

    /** Layer by layer, each in the order of its rows of moves, the least row kept for each cell. */
    private List<Integer> way(Drop drop, int goal, Drop awaited) {
        List<List<Integer>> layer = new ArrayList<>();
        layer.add(new ArrayList<>());
        for (int length = 0; length <= 60; length++) {
            for (List<Integer> row : layer) {
                boolean there = at(drop.cell, row, length) == goal;
                if (there && (awaited != null || clearOfAll(drop.cell, row, drop, null, 0, FOR_EVER))) {
                    return row;
                }
            }
            layer = nextLayer(drop, layer, length, awaited);
        }
        return null;
    }

    private List<List<Integer>> nextLayer(Drop drop, List<List<Integer>> layer, int length, Drop awaited) {
        List<List<Integer>> next = new ArrayList<>();
        boolean[] seen = new boolean[64];
        for (List<Integer> row : layer) {
            int cell = at(drop.cell, row, length);
            for (int move = 0; move < 5; move++) {
                int to = moved(cell, move);
                if (to == NONE || kinds[to] == 1 || seen[to]) {
                    continue;
                }
                List<Integer> longer = new ArrayList<>(row);
                longer.add(move);
                if (clearOfAll(drop.cell, longer, drop, awaited, length, length + 1)) {
                    seen[to] = true;
                    next.add(longer);
                }
            }
        }
        return next;
    }
}
