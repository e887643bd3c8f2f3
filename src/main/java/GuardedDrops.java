import java.util.Arrays;
import java.util.NoSuchElementException;

/** Droplets on a grid of cells, sent so that no two of them ever come near one another. */
public final class GuardedDrops {
    public static final int NONE = -1;

    private static final int SIDE = 8;
    private static final int CELLS = SIDE * SIDE;

    private static final int DEAD = 1;
    private static final int SINK = 2;
    private static final int SENSOR = 3;
    private static final int FIRST_SOURCE = 4;
    private static final int KINDS = 8;
    private static final int LIQUIDS = 4;

    private static final int MOST_AT_A_TIME = 6;
    private static final int MOST_IN_ALL = 60;
    private static final int MOST_MOVES = 60;
    private static final int MOST_STEPS = 100;
    private static final int MOST_READINGS = 50;

    private final int[] kinds = new int[CELLS];
    private final Living living = new Living();
    private final WayFinder ways = new WayFinder();
    private final Readings readings = new Readings();
    private long dead = 0L;
    private int now = 0;
    private int letOut = 0;
    private int thrownAway = 0;

    public GuardedDrops() {
    }

    public boolean cell(int x, int y, int kind) {
        if (!Grid.has(x, y) || kind < 0 || kind >= KINDS || living.count > 0) {
            return false;
        }
        int place = Grid.at(x, y);
        kinds[place] = kind;
        dead = kind == DEAD ? dead | Grid.only(place) : dead & ~Grid.only(place);
        return true;
    }

    public int dispense(int liquid)
            throws IllegalArgumentException, java.util.NoSuchElementException, IllegalStateException {
        if (liquid < 0 || liquid >= LIQUIDS) {
            throw new IllegalArgumentException("no such liquid");
        }
        int source = clearSource(liquid);
        if (source == NONE) {
            throw new NoSuchElementException("no clear source");
        }
        if (living.count >= MOST_AT_A_TIME || living.made >= MOST_IN_ALL) {
            throw new IllegalStateException("too many droplets");
        }
        Droplet fresh = living.add(source);
        fresh.fillWith(liquid);
        letOut++;
        return fresh.number;
    }

    public int send(int d, int x, int y)
            throws IllegalArgumentException, IllegalStateException, java.util.NoSuchElementException {
        Droplet droplet = living.find(d);
        if (droplet == null || !Grid.has(x, y)) {
            throw new IllegalArgumentException("no such droplet or cell");
        }
        if (!droplet.isFree()) {
            throw new IllegalStateException("not free");
        }
        int goal = Grid.at(x, y);
        heedAllBut(droplet, null);
        int length = ways.search(droplet.place, goal, dead, ways.clearFrom(goal));
        if (length == NONE) {
            throw new NoSuchElementException("no way");
        }
        ways.trace(droplet, goal, length);
        return length;
    }

    public int join(int d, int e)
            throws IllegalArgumentException, IllegalStateException, java.util.NoSuchElementException {
        Droplet comer = living.find(d);
        Droplet awaited = living.find(e);
        if (comer == null || awaited == null || d == e) {
            throw new IllegalArgumentException("no such two droplets");
        }
        if (!comer.isFree() || !awaited.isFree() || comer.volume != 1 || awaited.volume != 1) {
            throw new IllegalStateException("not free, or not of 1 unit");
        }
        heedAllBut(comer, awaited);
        int length = ways.search(comer.place, awaited.place, dead, 0);
        if (length == NONE) {
            throw new NoSuchElementException("no way");
        }
        ways.trace(comer, awaited.place, length);
        comer.into = e;
        awaited.awaits = d;
        return length;
    }

    public int halve(int d, boolean upright) throws IllegalArgumentException, IllegalStateException {
        Droplet whole = living.find(d);
        if (whole == null) {
            throw new IllegalArgumentException("no such droplet");
        }
        if (!whole.isFree() || whole.volume != 2) {
            throw new IllegalStateException("not free, or not of 2 units");
        }
        if (living.count >= MOST_AT_A_TIME || living.made > MOST_IN_ALL - 2) {
            throw new IllegalStateException("too many droplets");
        }
        int first = Grid.after(whole.place, upright ? Grid.UP : Grid.LEFT);
        int second = Grid.after(whole.place, upright ? Grid.DOWN : Grid.RIGHT);
        heedAllBut(whole, null);
        long shut = dead | ways.everShut();
        if (!isOpen(first, shut) || !isOpen(second, shut)) {
            throw new IllegalStateException("no room for the halves");
        }
        return splitUp(whole, first, second);
    }

    public int discard(int d) throws IllegalArgumentException, IllegalStateException {
        Droplet droplet = living.find(d);
        if (droplet == null) {
            throw new IllegalArgumentException("no such droplet");
        }
        if (!droplet.isFree() || kinds[droplet.place] != SINK) {
            throw new IllegalStateException("not free, or not on a sink");
        }
        int volume = droplet.volume;
        thrownAway += volume;
        living.remove(droplet);
        return volume;
    }

    public int run(int n) throws IllegalArgumentException {
        if (n < 0 || n > MOST_STEPS) {
            throw new IllegalArgumentException("not 0 to 100 steps");
        }
        int read = 0;
        for (int i = 0; i < n; i++) {
            now++;
            moveAll();
            joinArrived();
            read += readMoved();
        }
        return read;
    }

    public int time() {
        return now;
    }

    public int droplets() {
        return living.count;
    }

    public int look(int d, int what) throws IllegalArgumentException {
        Droplet droplet = living.find(d);
        if (droplet == null) {
            throw new IllegalArgumentException("no such droplet");
        }
        switch (what) {
            case 0:
                return droplet.place;
            case 1:
                return droplet.volume;
            case 2:
                return droplet.movesLeft();
            case 3:
                return droplet.into;
            case 4:
                return droplet.awaits;
            default:
                throw new IllegalArgumentException("no such thing to look at");
        }
    }

    public int ahead(int d, int n) {
        Droplet droplet = living.find(d);
        if (droplet == null || n < 0) {
            return NONE;
        }
        return droplet.placeAfter(n);
    }

    public long share(int d, int liquid) throws IllegalArgumentException {
        Droplet droplet = living.find(d);
        if (droplet == null || liquid < 0 || liquid > LIQUIDS) {
            throw new IllegalArgumentException("no such droplet or liquid");
        }
        return liquid == LIQUIDS ? droplet.exponent : droplet.numerators[liquid];
    }

    public int reading(int i, int what) throws IndexOutOfBoundsException {
        if (!readings.has(i, what)) {
            throw new IndexOutOfBoundsException("no such reading");
        }
        return readings.get(i, what);
    }

    public int units(int what) {
        if (what == 0) {
            return letOut;
        }
        return what == 1 ? thrownAway : letOut - thrownAway;
    }

    public int kind(int x, int y) {
        return Grid.has(x, y) ? kinds[Grid.at(x, y)] : NONE;
    }

    private int clearSource(int liquid) {
        heedAllBut(null, null);
        long shut = ways.everShut();
        for (int place = 0; place < CELLS; place++) {
            if (kinds[place] == FIRST_SOURCE + liquid && isOpen(place, shut)) {
                return place;
            }
        }
        return NONE;
    }

    private static boolean isOpen(int place, long shut) {
        return place != NONE && (shut & Grid.only(place)) == 0L;
    }

    private void heedAllBut(Droplet one, Droplet other) {
        ways.forget();
        for (int i = 0; i < living.count; i++) {
            Droplet droplet = living.list[i];
            if (droplet != one && droplet != other) {
                ways.heed(droplet);
            }
        }
    }

    /** The whole goes only when the first half is there, so that its shares are not yet overwritten. */
    private int splitUp(Droplet whole, int first, int second) {
        Droplet one = living.add(first);
        one.fillLike(whole);
        living.remove(whole);
        Droplet two = living.add(second);
        two.fillLike(one);
        return one.number;
    }

    private void moveAll() {
        for (int i = 0; i < living.count; i++) {
            living.list[i].makeMove();
        }
    }

    /** From the last to the first, because a removal moves those behind it. */
    private void joinArrived() {
        for (int i = living.count - 1; i >= 0; i--) {
            Droplet comer = living.list[i];
            if (comer.into != NONE && comer.movesLeft() == 0) {
                Droplet awaited = living.find(comer.into);
                if (awaited != null) {
                    awaited.takeIn(comer);
                }
                living.remove(comer);
            }
        }
    }

    private int readMoved() {
        int read = 0;
        for (int i = 0; i < living.count; i++) {
            Droplet droplet = living.list[i];
            if (droplet.moved && kinds[droplet.place] == SENSOR) {
                readings.add(droplet, now);
                read++;
            }
        }
        return read;
    }

    /** Cells and sets of cells; a set is a long whose bit c stands for cell c. */
    private static final class Grid {
        static final int UP = 1;
        static final int RIGHT = 2;
        static final int DOWN = 3;
        static final int LEFT = 4;
        static final int MOVES = 5;

        private static final long ALL_BUT_LEFTMOST = 0xFEFEFEFEFEFEFEFEL;
        private static final long ALL_BUT_RIGHTMOST = 0x7F7F7F7F7F7F7F7FL;

        private Grid() {
        }

        static boolean has(int x, int y) {
            return x >= 0 && x < SIDE && y >= 0 && y < SIDE;
        }

        static int at(int x, int y) {
            return SIDE * y + x;
        }

        static long only(int place) {
            return 1L << place;
        }

        /** The cell to which a move leads; NONE beyond the grid. */
        static int after(int place, int move) {
            int x = place % SIDE;
            int y = place / SIDE;
            switch (move) {
                case UP:
                    y--;
                    break;
                case RIGHT:
                    x++;
                    break;
                case DOWN:
                    y++;
                    break;
                case LEFT:
                    x--;
                    break;
                default:
                    break;
            }
            return has(x, y) ? at(x, y) : NONE;
        }

        /** All cells that one move leads to from some cell of the set. */
        static long oneMoveFrom(long set) {
            return upAndDown(set) | sideways(set);
        }

        /** All cells that are near some cell of the set. */
        static long near(long set) {
            return upAndDown(sideways(set));
        }

        private static long upAndDown(long set) {
            return set | (set << SIDE) | (set >>> SIDE);
        }

        private static long sideways(long set) {
            return set | ((set & ALL_BUT_RIGHTMOST) << 1) | ((set & ALL_BUT_LEFTMOST) >>> 1);
        }
    }

    private static final class Droplet {
        private final int[] moves = new int[MOST_MOVES];
        private final long[] numerators = new long[LIQUIDS];
        private int number = NONE;
        private int place = 0;
        private int volume = 0;
        private int exponent = 0;
        private int length = 0;
        private int done = 0;
        private int into = NONE;
        private int awaits = NONE;
        private boolean moved = false;

        void comeToBe(int newNumber, int newPlace) {
            number = newNumber;
            place = newPlace;
            volume = 1;
            length = 0;
            done = 0;
            into = NONE;
            awaits = NONE;
            moved = false;
        }

        void fillWith(int liquid) {
            Arrays.fill(numerators, 0L);
            numerators[liquid] = 1L;
            exponent = 0;
        }

        void fillLike(Droplet other) {
            System.arraycopy(other.numerators, 0, numerators, 0, LIQUIDS);
            exponent = other.exponent;
        }

        boolean isFree() {
            return movesLeft() == 0 && awaits == NONE;
        }

        int movesLeft() {
            return length - done;
        }

        void takeRoute(int newLength) {
            length = newLength;
            done = 0;
        }

        void makeMove() {
            moved = false;
            if (done < length) {
                moved = moves[done] != 0;
                place = Grid.after(place, moves[done]);
                done++;
            }
        }

        /** The cell so many steps from now; NONE once it has gone into another droplet. */
        int placeAfter(int steps) {
            int left = movesLeft();
            if (into != NONE && steps >= left) {
                return NONE;
            }
            int later = place;
            for (int i = 0; i < left && i < steps; i++) {
                later = Grid.after(later, moves[done + i]);
            }
            return later;
        }

        void takeIn(Droplet comer) {
            int common = Math.max(exponent, comer.exponent);
            for (int i = 0; i < LIQUIDS; i++) {
                numerators[i] = (numerators[i] << (common - exponent))
                        + (comer.numerators[i] << (common - comer.exponent));
            }
            exponent = common + 1;
            lowerExponent();
            volume += comer.volume;
            awaits = NONE;
        }

        private void lowerExponent() {
            while (exponent > 0 && allEven()) {
                for (int i = 0; i < LIQUIDS; i++) {
                    numerators[i] = numerators[i] >> 1;
                }
                exponent--;
            }
        }

        private boolean allEven() {
            long bits = 0L;
            for (int i = 0; i < LIQUIDS; i++) {
                bits |= numerators[i];
            }
            return (bits & 1L) == 0L;
        }
    }

    /** The droplets that are there, by rising number; the objects behind them wait to be used again. */
    private static final class Living {
        private final Droplet[] list = new Droplet[MOST_AT_A_TIME];
        private int count = 0;
        private int made = 0;

        Living() {
            for (int i = 0; i < MOST_AT_A_TIME; i++) {
                list[i] = new Droplet();
            }
        }

        Droplet find(int number) {
            for (int i = 0; i < count; i++) {
                if (list[i].number == number) {
                    return list[i];
                }
            }
            return null;
        }

        /** The caller has seen to it that there is room. */
        Droplet add(int place) {
            Droplet fresh = list[count];
            fresh.comeToBe(made, place);
            count++;
            made++;
            return fresh;
        }

        void remove(Droplet gone) {
            int kept = 0;
            for (int i = 0; i < count; i++) {
                if (list[i] != gone) {
                    list[kept] = list[i];
                    kept++;
                }
            }
            if (kept < count) {
                list[kept] = gone;
                count = kept;
            }
        }
    }

    /**
     * Finds ways among droplets that it was told to heed. Times are counted from now; at the last
     * of them all routes have ended, so that what holds then holds for ever.
     */
    private static final class WayFinder {
        private final long[] taken = new long[MOST_MOVES + 1];
        private final long[] reached = new long[MOST_MOVES + 1];

        void forget() {
            Arrays.fill(taken, 0L);
        }

        void heed(Droplet other) {
            int left = other.movesLeft();
            int end = other.into == NONE ? MOST_MOVES + 1 : left;
            int place = other.place;
            for (int t = 0; t < end; t++) {
                taken[t] |= Grid.only(place);
                if (t < left) {
                    place = Grid.after(place, other.moves[other.done + t]);
                }
            }
        }

        /** The cells on which a droplet can't be at a time: near one at it, or a step before or behind. */
        private long shutAt(int t) {
            long union = taken[t];
            if (t > 0) {
                union |= taken[t - 1];
            }
            if (t < MOST_MOVES) {
                union |= taken[t + 1];
            }
            return Grid.near(union);
        }

        /** The cells on which a droplet can't rest from now on. */
        long everShut() {
            long union = 0L;
            for (int t = 0; t <= MOST_MOVES; t++) {
                union |= taken[t];
            }
            return Grid.near(union);
        }

        /** The first time from which a droplet can rest on a cell for ever; MOST_MOVES + 1 when never. */
        int clearFrom(int place) {
            int first = MOST_MOVES + 1;
            while (first > 0 && (shutAt(first - 1) & Grid.only(place)) == 0L) {
                first--;
            }
            return first;
        }

        /** The length of the shortest way that is not over before the earliest time; NONE for none. */
        int search(int from, int to, long dead, int earliest) {
            long goal = Grid.only(to);
            reached[0] = Grid.only(from);
            for (int t = 0; t <= MOST_MOVES; t++) {
                if (t > 0) {
                    reached[t] = Grid.oneMoveFrom(reached[t - 1]) & ~dead & ~shutAt(t);
                }
                if (t >= earliest && (reached[t] & goal) != 0L) {
                    return t;
                }
            }
            return NONE;
        }

        /** Gives the droplet the way that was found: the cells that don't lead to the goal are dropped first. */
        void trace(Droplet droplet, int to, int length) {
            reached[length] = Grid.only(to);
            for (int t = length - 1; t >= 0; t--) {
                reached[t] &= Grid.oneMoveFrom(reached[t + 1]);
            }
            int place = droplet.place;
            for (int t = 0; t < length; t++) {
                int move = leastMove(place, reached[t + 1]);
                droplet.moves[t] = move;
                place = Grid.after(place, move);
            }
            droplet.takeRoute(length);
        }

        private static int leastMove(int place, long wanted) {
            for (int move = 0; move < Grid.MOVES; move++) {
                int next = Grid.after(place, move);
                if (next != NONE && (wanted & Grid.only(next)) != 0L) {
                    return move;
                }
            }
            return 0;
        }
    }

    /** The latest readings, in a ring of rows. */
    private static final class Readings {
        private static final int COLUMNS = 4;

        private final int[] rows = new int[MOST_READINGS * COLUMNS];
        private int oldest = 0;
        private int count = 0;

        void add(Droplet droplet, int when) {
            int row = ((oldest + count) % MOST_READINGS) * COLUMNS;
            rows[row] = droplet.number;
            rows[row + 1] = when;
            rows[row + 2] = droplet.place;
            rows[row + 3] = droplet.volume;
            if (count < MOST_READINGS) {
                count++;
            } else {
                oldest = (oldest + 1) % MOST_READINGS;
            }
        }

        boolean has(int i, int what) {
            return i >= 0 && i < count && what >= 0 && what < COLUMNS;
        }

        int get(int i, int what) {
            return rows[((oldest + i) % MOST_READINGS) * COLUMNS + what];
        }
    }
}
