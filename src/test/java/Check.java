import java.util.function.Supplier;

/** What the tests share: sentences of the document, each with a test of its own, and answers held against what is due. */
final class Check {
    private final String test;
    private String sentence = "";
    private int sentences = 0;
    private int asked = 0;
    private int wrong = 0;

    Check(String test) {
        this.test = test;
    }

    /** One test of one sentence; whatever it comes to, the others are made too. */
    void sentence(String words, Runnable testOfIt) {
        sentence = words;
        sentences++;
        int before = asked;
        try {
            testOfIt.run();
        } catch (RuntimeException e) {
            fail("broke off with " + e);
        }
        if (asked == before) {
            fail("nothing was asked");
        }
    }

    void due(String what, long got, long want) {
        asked++;
        if (got != want) {
            fail(what + " answered " + got + ", due is " + want);
        }
    }

    void due(String what, boolean got, boolean want) {
        due(what, got ? 1L : 0L, want ? 1L : 0L);
    }

    void due(String what, String got, String want) {
        asked++;
        if (!got.equals(want)) {
            fail(what + "\n  answered " + got + "\n  due is   " + want);
        }
    }

    private void fail(String how) {
        wrong++;
        System.out.println(test + ", \"" + sentence + "\": " + how);
    }

    /** The call throws just this exception, and nothing that can be seen has changed by it. */
    void refused(String what, Drops drops, Class<? extends RuntimeException> want, Supplier<? extends Number> call) {
        String before = Seen.of(drops);
        due(what, answer(call), "throws " + want.getName());
        due(what + " changes nothing", Seen.of(drops), before);
    }

    /** The cells on which a droplet will be from now on, the last of them for ever. */
    void path(String what, Drops drops, int d, int... cells) {
        for (int n = 0; n < cells.length; n++) {
            due(what + ": the cell in " + n + " steps", drops.ahead(d, n), cells[n]);
        }
        int last = cells[cells.length - 1];
        due(what + ": the cell a step later", drops.ahead(d, cells.length), last);
        due(what + ": the cell for ever", drops.ahead(d, Integer.MAX_VALUE), last);
    }

    void looks(String what, Drops drops, int d, int... answers) {
        for (int i = 0; i < answers.length; i++) {
            due(what + ": look(" + d + ", " + i + ")", drops.look(d, i), answers[i]);
        }
    }

    void shares(String what, Drops drops, int d, long... answers) {
        for (int i = 0; i < answers.length; i++) {
            due(what + ": share(" + d + ", " + i + ")", drops.share(d, i), answers[i]);
        }
    }

    void reading(Drops drops, int i, int... answers) {
        for (int what = 0; what < answers.length; what++) {
            due("reading(" + i + ", " + what + ")", drops.reading(i, what), answers[what]);
        }
    }

    void end() {
        System.out.println(test + ": " + sentences + " sentences, " + asked + " answers, " + wrong + " wrong");
        if (wrong != 0 || asked == 0) {
            System.exit(1);
        }
    }

    /** The answer as a text, or the name of what was thrown. */
    static String answer(Supplier<? extends Number> call) {
        try {
            return String.valueOf(call.get().longValue());
        } catch (RuntimeException e) {
            return "throws " + e.getClass().getName();
        }
    }
}
