/** All that the face tells of an object, as a text; each part of it is asked of an object of its own. */
final class Seen {
    private static final int NUMBERS = 60;
    private static final int READINGS = 50;
    private static final int LONGEST = 60;

    private Seen() {
    }

    static String of(Drops drops) {
        StringBuilder text = new StringBuilder();
        appendGrid(text, drops.again());
        Drops living = drops.again();
        for (int d = -1; d <= NUMBERS; d++) {
            if (living.ahead(d, 0) != GuardedDrops.NONE) {
                appendDroplet(text, drops.again(), d);
            }
        }
        for (int what = 0; what < 4; what++) {
            appendReadings(text, drops.again(), what);
        }
        return text.toString();
    }

    private static void appendGrid(StringBuilder text, Drops drops) {
        text.append("time ").append(drops.time()).append(" droplets ").append(drops.droplets()).append(" units");
        for (int what = 0; what < 3; what++) {
            text.append(' ').append(drops.units(what));
        }
        text.append(" kinds ");
        for (int c = 0; c < 64; c++) {
            text.append(drops.kind(c % 8, c / 8));
        }
    }

    private static void appendDroplet(StringBuilder text, Drops drops, int d) {
        text.append("\n    droplet ").append(d).append(" look");
        for (int what = 0; what < 5; what++) {
            text.append(' ').append(drops.look(d, what));
        }
        text.append(" shares");
        for (int liquid = 0; liquid < 5; liquid++) {
            text.append(' ').append(drops.share(d, liquid));
        }
        text.append(" ahead");
        for (int n = 0; n <= LONGEST + 1; n++) {
            text.append(' ').append(drops.ahead(d, n));
        }
    }

    private static void appendReadings(StringBuilder text, Drops drops, int what) {
        text.append("\n    readings of ").append(what);
        for (int i = 0; i <= READINGS; i++) {
            int which = i;
            String answer = Check.answer(() -> drops.reading(which, what));
            text.append(' ').append(answer);
            if (answer.startsWith("throws")) {
                return;
            }
        }
    }
}
