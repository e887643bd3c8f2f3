import java.util.Map;
import java.util.Random;
import java.util.TreeMap;
import java.util.function.IntPredicate;
import java.util.function.Supplier;

/** Promises 1 to 16 together: long runs of calls, chosen by fixed seeds, held against the plain model. */
public final class ModelTest {
    private static final int RUNS = 120;
    private static final int CALLS = 500;

    private final Check check;
    private final Random random;
    private final int seed;
    private final Map<String, Integer> outcomes;
    private final GuardedDrops drops = new GuardedDrops();
    private final PlainModel model = new PlainModel();

    private ModelTest(Check check, int seed, Map<String, Integer> outcomes) {
        this.check = check;
        this.seed = seed;
        this.random = new Random(seed);
        this.outcomes = outcomes;
    }

    public static void main(String[] args) {
        Check check = new Check("ModelTest");
        Map<String, Integer> outcomes = new TreeMap<>();
        for (int seed = 0; seed < RUNS; seed++) {
            new ModelTest(check, seed, outcomes).play();
        }
        System.out.println(outcomes);
        everyOutcomeCame(check, outcomes);
        check.end();
    }

    /** A run of calls that never comes to some outcome would test nothing of it. */
    private static void everyOutcomeCame(Check check, Map<String, Integer> outcomes) {
        String[][] wanted = {
            {"dispense", "answers", "IllegalArgument", "NoSuchElement", "IllegalState"},
            {"send", "answers", "IllegalArgument", "NoSuchElement", "IllegalState"},
            {"join", "answers", "IllegalArgument", "NoSuchElement", "IllegalState"},
            {"halve", "answers", "IllegalArgument", "IllegalState"},
            {"discard", "answers", "IllegalArgument", "IllegalState"},
            {"run", "answers", "IllegalArgument"},
        };
        for (String[] row : wanted) {
            for (int i = 1; i < row.length; i++) {
                String name = row[0] + " " + row[i];
                check.due("'" + name + "' came often", outcomes.getOrDefault(name, 0) >= 20, true);
            }
        }
    }

    private void play() {
        layOut();
        for (int i = 0; i < CALLS; i++) {
            oneCall();
        }
    }

    private void layOut() {
        int deadOfTen = random.nextInt(3);
        for (int c = 0; c < 64; c++) {
            int kind = random.nextInt(10) < deadOfTen ? 1 : random.nextInt(3) == 0 ? 2 + random.nextInt(6) : 0;
            cell(c % 8, c / 8, random.nextInt(3) == 0 ? 0 : kind);
        }
    }

    private void oneCall() {
        int choice = random.nextInt(100);
        if (choice < 14) {
            int liquid = mostly(4);
            both("dispense(" + liquid + ")", () -> drops.dispense(liquid), () -> model.dispense(liquid));
        } else if (choice < 36) {
            send(mostlySuch(d -> drops.look(d, 2) == 0));
        } else if (choice < 52) {
            join();
        } else if (choice < 61) {
            int d = mostlySuch(n -> drops.look(n, 1) == 2);
            boolean upright = random.nextBoolean();
            both("halve(" + d + ", " + upright + ")", () -> drops.halve(d, upright), () -> model.halve(d, upright));
        } else if (choice < 70) {
            int d = mostlySuch(this::isOnSink);
            both("discard(" + d + ")", () -> drops.discard(d), () -> model.discard(d));
        } else if (choice < 92) {
            int n = random.nextInt(12) == 0 ? random.nextInt(110) - 4 : random.nextInt(8);
            both("run(" + n + ")", () -> drops.run(n), () -> model.run(n));
            sameReadings();
        } else if (choice < 95) {
            cell(mostly(8), mostly(8), mostly(8));
        } else {
            ask(someDroplet());
        }
        sameState();
    }

    private void join() {
        int d = mostlySuch(n -> drops.look(n, 1) == 1 && drops.look(n, 2) == 0);
        int e = mostlySuch(n -> n != d && drops.look(n, 1) == 1 && drops.look(n, 2) == 0);
        both("join(" + d + ", " + e + ")", () -> drops.join(d, e), () -> model.join(d, e));
    }

    private void send(int d) {
        int x = mostly(8);
        int y = mostly(8);
        if (random.nextInt(6) < drops.droplets() - 1) {
            for (int c = random.nextInt(64); c < 64; c++) {
                if (drops.kind(c % 8, c / 8) == 2) {
                    x = c % 8;
                    y = c / 8;
                    break;
                }
            }
        }
        int toX = x;
        int toY = y;
        both("send(" + d + ", " + x + ", " + y + ")", () -> drops.send(d, toX, toY), () -> model.send(d, toX, toY));
    }

    private boolean isOnSink(int d) {
        int place = drops.look(d, 0);
        return drops.kind(place % 8, place / 8) == 2;
    }

    private void cell(int x, int y, int kind) {
        both("cell(" + x + ", " + y + ", " + kind + ")",
                () -> drops.cell(x, y, kind) ? 1 : 0, () -> model.cell(x, y, kind) ? 1 : 0);
    }

    private void ask(int d) {
        int what = random.nextInt(8) - 1;
        int n = random.nextInt(80) - 3;
        both("look(" + d + ", " + what + ")", () -> drops.look(d, what), () -> model.look(d, what));
        both("share(" + d + ", " + what + ")", () -> drops.share(d, what), () -> model.share(d, what));
        both("ahead(" + d + ", " + n + ")", () -> drops.ahead(d, n), () -> model.ahead(d, n));
        both("reading(" + n + ", " + what + ")", () -> drops.reading(n, what), () -> model.reading(n, what));
        both("units(" + what + ")", () -> drops.units(what), () -> model.units(what));
        both("kind(" + what + ", " + n + ")", () -> drops.kind(what, n), () -> model.kind(what, n));
    }

    /** Mostly one that there is and that is such, if there is one. */
    private int mostlySuch(IntPredicate such) {
        int start = random.nextInt(60);
        for (int i = 0; i < 60 && random.nextInt(600) != 0; i++) {
            int d = (start + i) % 60;
            if (drops.ahead(d, 0) != GuardedDrops.NONE && such.test(d)) {
                return d;
            }
        }
        return someDroplet();
    }

    /** Mostly one that there is, sometimes any number. */
    private int someDroplet() {
        if (drops.droplets() > 0 && random.nextInt(15) != 0) {
            int d = random.nextInt(60);
            for (int i = 0; i < 60; i++) {
                if (drops.ahead((d + i) % 60, 0) != GuardedDrops.NONE) {
                    return (d + i) % 60;
                }
            }
        }
        return random.nextInt(64) - 2;
    }

    private int mostly(int below) {
        return random.nextInt(25) == 0 ? (random.nextBoolean() ? -1 : below) : random.nextInt(below);
    }

    private void both(String call, Supplier<? extends Number> asked, Supplier<? extends Number> due) {
        String got = Check.answer(asked);
        check.due("seed " + seed + ": " + call, got, Check.answer(due));
        String name = call.substring(0, call.indexOf('('));
        String outcome = got.startsWith("throws")
                ? got.substring(got.lastIndexOf('.') + 1).replace("Exception", "") : "answers";
        outcomes.merge(name + " " + outcome, 1, Integer::sum);
    }

    private void sameState() {
        both("time()", drops::time, model::time);
        both("droplets()", drops::droplets, model::droplets);
        for (int what = 0; what < 3; what++) {
            int w = what;
            both("units(" + w + ")", () -> drops.units(w), () -> model.units(w));
        }
        for (int d = 0; d < 60; d++) {
            check.due("seed " + seed + ": ahead(" + d + ", 0)", drops.ahead(d, 0), model.ahead(d, 0));
            if (model.ahead(d, 0) != GuardedDrops.NONE) {
                sameDroplet(d);
            }
        }
    }

    private void sameReadings() {
        boolean there = true;
        for (int i = 0; i <= 50 && there; i++) {
            int n = i;
            there = !Check.answer(() -> model.reading(n, 0)).startsWith("throws");
            for (int j = 0; j < 4; j++) {
                int what = j;
                both("reading(" + n + ", " + what + ")", () -> drops.reading(n, what), () -> model.reading(n, what));
            }
        }
    }

    private void sameDroplet(int d) {
        for (int i = 0; i < 5; i++) {
            int what = i;
            both("look(" + d + ", " + what + ")", () -> drops.look(d, what), () -> model.look(d, what));
            both("share(" + d + ", " + what + ")", () -> drops.share(d, what), () -> model.share(d, what));
        }
        for (int n = 1; n < 62; n++) {
            check.due("seed " + seed + ": ahead(" + d + ", " + n + ")", drops.ahead(d, n), model.ahead(d, n));
        }
    }
}
