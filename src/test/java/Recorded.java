import java.util.ArrayList;
import java.util.List;

/**
 * A GuardedDrops that remembers its calls, so that new objects can be brought to where it is. The
 * document leaves free what an object answers after 512 calls, so a test that makes more is wrong.
 */
final class Recorded implements Drops {
    private static final int MOST_CALLS = 512;

    private interface Call {
        long on(GuardedDrops drops);
    }

    private final GuardedDrops drops = new GuardedDrops();
    private final List<Call> calls = new ArrayList<>();

    /** An object whose cells have the kinds of a drawing, a row of digits for each y, '.' for plain. */
    static Recorded grid(String... rows) {
        Recorded drawn = new Recorded();
        for (int y = 0; y < rows.length; y++) {
            for (int x = 0; x < rows[y].length(); x++) {
                char kind = rows[y].charAt(x);
                if (kind != '.' && !drawn.cell(x, y, kind - '0')) {
                    throw new IllegalStateException("a drawn cell was refused");
                }
            }
        }
        return drawn;
    }

    @Override
    public Recorded again() {
        Recorded other = new Recorded();
        for (Call call : calls) {
            try {
                other.make(call);
            } catch (RuntimeException e) {
                // It was refused the first time too, and that was looked at then.
            }
        }
        return other;
    }

    private long make(Call call) {
        if (calls.size() == MOST_CALLS) {
            throw new AssertionError("the test makes more calls than an object is used for");
        }
        calls.add(call);
        return call.on(drops);
    }

    @Override
    public boolean cell(int x, int y, int kind) {
        return make(d -> d.cell(x, y, kind) ? 1 : 0) == 1;
    }

    @Override
    public int dispense(int liquid) {
        return (int) make(d -> d.dispense(liquid));
    }

    @Override
    public int send(int number, int x, int y) {
        return (int) make(d -> d.send(number, x, y));
    }

    @Override
    public int join(int number, int into) {
        return (int) make(d -> d.join(number, into));
    }

    @Override
    public int halve(int number, boolean upright) {
        return (int) make(d -> d.halve(number, upright));
    }

    @Override
    public int discard(int number) {
        return (int) make(d -> d.discard(number));
    }

    @Override
    public int run(int n) {
        return (int) make(d -> d.run(n));
    }

    @Override
    public int time() {
        return (int) make(GuardedDrops::time);
    }

    @Override
    public int droplets() {
        return (int) make(GuardedDrops::droplets);
    }

    @Override
    public int look(int number, int what) {
        return (int) make(d -> d.look(number, what));
    }

    @Override
    public int ahead(int number, int n) {
        return (int) make(d -> d.ahead(number, n));
    }

    @Override
    public long share(int number, int liquid) {
        return make(d -> d.share(number, liquid));
    }

    @Override
    public int reading(int i, int what) {
        return (int) make(d -> d.reading(i, what));
    }

    @Override
    public int units(int what) {
        return (int) make(d -> d.units(what));
    }

    @Override
    public int kind(int x, int y) {
        return (int) make(d -> d.kind(x, y));
    }
}
