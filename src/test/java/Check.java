import java.util.function.Supplier;

/** What the tests share: answers held against what is due, and all that can be seen of an object. */
final class Check {
    private static final int NUMBERS = 60;

    private final String test;
    private int asked = 0;
    private int wrong = 0;

    Check(String test) {
        this.test = test;
    }

    void due(String what, long got, long want) {
        asked++;
        if (got != want) {
            wrong++;
            System.out.println(test + ": " + what + " answered " + got + ", due is " + want);
        }
    }

    void due(String what, boolean got, boolean want) {
        due(what, got ? 1L : 0L, want ? 1L : 0L);
    }

    void due(String what, String got, String want) {
        asked++;
        if (!got.equals(want)) {
            wrong++;
            System.out.println(test + ": " + what + "\n  answered " + got + "\n  due is   " + want);
        }
    }

    /** The call throws just this exception, and nothing that can be seen has changed by it. */
    void refused(String what, GuardedDrops drops, Class<? extends RuntimeException> want, Supplier<? extends Number> call) {
        String before = seen(drops);
        due(what, answer(call), "throws " + want.getName());
        due(what + " changes nothing", seen(drops), before);
    }

    void end() {
        System.out.println(test + ": " + asked + " answers, " + wrong + " wrong");
        if (wrong != 0 || asked == 0) {
            System.exit(1);
        }
    }

    /** The answer as a text, or the name of what was thrown. */
    static String answer(Supplier<? extends Number> call) {
        try {
            return String.valueOf(call.get().longValue());
        } catch (RuntimeException e) {
            return "throws " + e.getClass().getName();
        }
    }

    /** All that the face tells of an object, as a text. */
    static String seen(GuardedDrops drops) {
        StringBuilder text = new StringBuilder();
        text.append("time ").append(drops.time()).append(" droplets ").append(drops.droplets());
        text.append(" units ").append(drops.units(0)).append(' ').append(drops.units(1)).append(' ').append(drops.units(2));
        for (int d = 0; d < NUMBERS; d++) {
            if (drops.ahead(d, 0) != GuardedDrops.NONE) {
                appendDroplet(text, drops, d);
            }
        }
        for (int i = 0; !answer(reading(drops, i, 0)).startsWith("throws"); i++) {
            text.append(" reading");
            for (int what = 0; what < 4; what++) {
                text.append(' ').append(drops.reading(i, what));
            }
        }
        text.append(" kinds ");
        for (int c = 0; c < 64; c++) {
            text.append(drops.kind(c % 8, c / 8));
        }
        return text.toString();
    }

    private static Supplier<Integer> reading(GuardedDrops drops, int i, int what) {
        return () -> drops.reading(i, what);
    }

    private static void appendDroplet(StringBuilder text, GuardedDrops drops, int d) {
        text.append(" droplet ").append(d).append(" look");
        for (int what = 0; what < 5; what++) {
            text.append(' ').append(drops.look(d, what));
        }
        text.append(" shares");
        for (int liquid = 0; liquid < 5; liquid++) {
            text.append(' ').append(drops.share(d, liquid));
        }
        text.append(" ahead");
        for (int n = 0; n < 63; n++) {
            text.append(' ').append(drops.ahead(d, n));
        }
    }

    /** An object whose cells have the kinds of a drawing, a row of 8 digits for each y, '.' for plain. */
    static GuardedDrops grid(String... rows) {
        GuardedDrops drops = new GuardedDrops();
        for (int y = 0; y < rows.length; y++) {
            for (int x = 0; x < rows[y].length(); x++) {
                char kind = rows[y].charAt(x);
                if (kind != '.' && !drops.cell(x, y, kind - '0')) {
                    throw new AssertionError("a drawn cell was refused");
                }
            }
        }
        return drops;
    }
}
