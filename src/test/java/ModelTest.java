import java.util.Map;
import java.util.Random;
import java.util.TreeMap;
import java.util.function.IntPredicate;
import java.util.function.ToLongFunction;

/** Promises 1 to 16 together: long runs of calls, chosen by fixed seeds, held against the plain model. */
public final class ModelTest {
    private static final int RUNS = 240;
    private static final int CALLS = 360;
    private static final int CALLS_BETWEEN_LOOKS = 12;

    private final Check check;
    private final Random random;
    private final int seed;
    private final Map<String, Integer> outcomes;
    private final Recorded drops = new Recorded();
    private final PlainModel model = new PlainModel();
    private int made = 0;

    private ModelTest(Check check, int seed, Map<String, Integer> outcomes) {
        this.check = check;
        this.seed = seed;
        this.random = new Random(seed);
        this.outcomes = outcomes;
    }

    public static void main(String[] args) {
        Check check = new Check("ModelTest");
        Map<String, Integer> outcomes = new TreeMap<>();
        for (int seed = 0; seed < RUNS; seed++) {
            int number = seed;
            check.sentence("all of it, by run " + seed, () -> new ModelTest(check, number, outcomes).play());
        }
        System.out.println(outcomes);
        check.sentence("all of it", () -> everyOutcomeCame(check, outcomes));
        check.end();
    }

    /** A run of calls that never comes to some outcome would test nothing of it. */
    private static void everyOutcomeCame(Check check, Map<String, Integer> outcomes) {
        String[][] wanted = {
            {"cell", "answers 0", "answers 1"},
            {"dispense", "answers", "IllegalArgument", "NoSuchElement", "IllegalState"},
            {"send", "answers", "IllegalArgument", "NoSuchElement", "IllegalState"},
            {"join", "answers", "IllegalArgument", "NoSuchElement", "IllegalState"},
            {"halve", "answers", "IllegalArgument", "IllegalState"},
            {"discard", "answers", "IllegalArgument", "IllegalState"},
            {"run", "answers", "IllegalArgument"},
            {"look", "answers", "IllegalArgument"},
            {"share", "answers", "IllegalArgument"},
            {"reading", "answers", "IndexOutOfBounds"},
        };
        for (String[] row : wanted) {
            for (int i = 1; i < row.length; i++) {
                String name = row[0] + " " + row[i];
                check.due("'" + name + "' came often", outcomes.getOrDefault(name, 0) >= 20, true);
            }
        }
    }

    private void play() {
        layOut();
        while (made < CALLS) {
            oneCall();
            if (made % CALLS_BETWEEN_LOOKS == 0 || made >= CALLS) {
                check.due("seed " + seed + ", after " + made + " calls", Seen.of(drops), Seen.of(model));
            }
        }
    }

    private void layOut() {
        int deadOfTen = random.nextInt(3);
        for (int c = 0; c < 64; c++) {
            int kind = random.nextInt(10) < deadOfTen ? 1 : random.nextInt(3) == 0 ? 2 + random.nextInt(6) : 0;
            if (kind != 0 && random.nextInt(3) != 0) {
                cell(c % 8, c / 8, kind);
            }
        }
    }

    private void oneCall() {
        int choice = random.nextInt(100);
        if (choice < 14) {
            int liquid = mostly(4);
            both("dispense", liquid, 0, 0, d -> d.dispense(liquid));
        } else if (choice < 36) {
            send(mostlySuch(d -> model.look(d, 2) == 0));
        } else if (choice < 52) {
            join();
        } else if (choice < 61) {
            int number = mostlySuch(n -> model.look(n, 1) == 2);
            boolean upright = random.nextBoolean();
            both("halve", number, upright ? 1 : 0, 0, d -> d.halve(number, upright));
        } else if (choice < 70) {
            int number = mostlySuch(this::isOnSink);
            both("discard", number, 0, 0, d -> d.discard(number));
        } else if (choice < 90) {
            int n = random.nextInt(12) == 0 ? random.nextInt(110) - 4 : random.nextInt(8);
            both("run", n, 0, 0, d -> d.run(n));
        } else if (choice < 93) {
            cell(mostly(8), mostly(8), mostly(8));
        } else {
            ask(someDroplet());
        }
    }

    private void join() {
        int comer = mostlySuch(n -> model.look(n, 1) == 1 && model.look(n, 2) == 0);
        int awaited = mostlySuch(n -> n != comer && model.look(n, 1) == 1 && model.look(n, 2) == 0);
        both("join", comer, awaited, 0, d -> d.join(comer, awaited));
    }

    /** The fuller the grid is, the more often to a sink. */
    private void send(int number) {
        int place = 8 * random.nextInt(8) + random.nextInt(8);
        if (random.nextInt(6) < model.droplets() - 1) {
            for (int c = random.nextInt(64); c < 64; c++) {
                if (model.kind(c % 8, c / 8) == 2) {
                    place = c;
                    break;
                }
            }
        }
        int x = random.nextInt(25) == 0 ? mostly(8) : place % 8;
        int y = random.nextInt(25) == 0 ? mostly(8) : place / 8;
        both("send", number, x, y, d -> d.send(number, x, y));
    }

    private boolean isOnSink(int d) {
        int place = model.look(d, 0);
        return model.kind(place % 8, place / 8) == 2;
    }

    private void cell(int x, int y, int kind) {
        both("cell", x, y, kind, d -> d.cell(x, y, kind) ? 1 : 0);
    }

    private void ask(int number) {
        int what = random.nextInt(8) - 1;
        int n = random.nextInt(80) - 3;
        both("look", number, what, 0, d -> d.look(number, what));
        both("share", number, what, 0, d -> d.share(number, what));
        both("ahead", number, n, 0, d -> d.ahead(number, n));
        both("reading", n, what, 0, d -> d.reading(n, what));
        both("units", what, 0, 0, d -> d.units(what));
        both("kind", what, n, 0, d -> d.kind(what, n));
    }

    /** Mostly one that there is and that is such, if there is one. */
    private int mostlySuch(IntPredicate such) {
        int start = random.nextInt(60);
        for (int i = 0; i < 60 && random.nextInt(600) != 0; i++) {
            int d = (start + i) % 60;
            if (model.ahead(d, 0) != GuardedDrops.NONE && such.test(d)) {
                return d;
            }
        }
        return someDroplet();
    }

    /** Mostly one that there is, sometimes any number. */
    private int someDroplet() {
        if (model.droplets() > 0 && random.nextInt(15) != 0) {
            int d = random.nextInt(60);
            for (int i = 0; i < 60; i++) {
                if (model.ahead((d + i) % 60, 0) != GuardedDrops.NONE) {
                    return (d + i) % 60;
                }
            }
        }
        return random.nextInt(64) - 2;
    }

    private int mostly(int below) {
        return random.nextInt(25) == 0 ? (random.nextBoolean() ? -1 : below) : random.nextInt(below);
    }

    private void both(String name, int a, int b, int c, ToLongFunction<Drops> call) {
        made++;
        String got = Check.answer(() -> call.applyAsLong(drops));
        String due = Check.answer(() -> call.applyAsLong(model));
        check.due("seed " + seed + ", call " + made + ": " + name + " of " + a + ", " + b + ", " + c, got, due);
        String outcome = due.startsWith("throws")
                ? due.substring(due.lastIndexOf('.') + 1).replace("Exception", "") : "answers";
        outcomes.merge(name + " " + outcome + (name.equals("cell") ? " " + due : ""), 1, Integer::sum);
    }
}
