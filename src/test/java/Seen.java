/**
 * All that can be seen of an object by calls that are never refused, as text, so that two objects can
 * be held against each other. An object with 24 cells takes some 400 calls.
 */
final class Seen {
    private static final int MEMO = 3;
    private static final int EFFECT = 4;
    private static final int SCOPE = 5;
    private static final int FIRST_REFUSAL = 12;
    private static final int REFUSALS = 5;
    private static final int[] PLACES = {0, 1, 2, 3, 39};

    private Seen() {
    }

    static String of(PulledSignals x) {
        StringBuilder text = new StringBuilder("status");
        for (int what = 0; what <= 9; what++) {
            text.append(' ').append(x.status(what));
        }
        cells(x, text);
        lists(x, text);
        shelves(x, text);
        return text.toString();
    }

    private static void cells(PulledSignals x, StringBuilder text) {
        int count = x.status(0);
        for (int c = 0; c < count; c++) {
            int[] told = new int[11];
            text.append("\ncell ").append(c).append(':');
            for (int what = 0; what < told.length; what++) {
                told[what] = x.cellOf(c, what);
                text.append(' ').append(told[what]);
            }
            for (int i = 0; i < told[6]; i++) {
                text.append(" read ").append(x.reads(c, i));
            }
            if (told[0] != SCOPE) {
                text.append(" kept ").append(x.kept(c));
            }
            if (told[0] == MEMO || told[0] == EFFECT) {
                text.append(" formula ").append(formula(x, c)).append(" plain ").append(x.plain(c));
            }
        }
    }

    static String formula(PulledSignals x, int cell) {
        StringBuilder text = new StringBuilder();
        int letter = x.spelled(cell, 0);
        for (int i = 1; letter >= 0; i++) {
            text.append((char) letter);
            letter = x.spelled(cell, i);
        }
        return text.toString();
    }

    private static void lists(PulledSignals x, StringBuilder text) {
        int logged = Math.min(60, x.status(4));
        text.append("\nlog");
        for (int i = 0; i < logged; i += i < 4 || i == logged - 2 ? 1 : Math.max(1, logged - 2 - i)) {
            text.append(' ').append(x.log(i)).append('=').append(x.logged(i));
        }
        text.append("\ndisposed");
        int gone = Math.min(60, x.status(5));
        for (int i = 0; i < gone; i++) {
            text.append(' ').append(x.disposed(i));
        }
        text.append("\nqueue");
        int queued = x.status(3);
        for (int i = 0; i < queued; i++) {
            text.append(' ').append(x.queued(i));
        }
    }

    private static void shelves(PulledSignals x, StringBuilder text) {
        text.append("\nshelves");
        for (int s = 0; s < 8; s++) {
            int held = x.holds(s);
            text.append(' ').append(held);
            if (held >= 0 && held < 10) {
                for (int i : PLACES) {
                    text.append(',').append(x.element(s, i));
                }
            }
        }
    }

    /** How many refusals of each number were counted, from BAD on. */
    static int[] refusals(PulledSignals x) {
        int[] counted = new int[REFUSALS];
        for (int i = 0; i < REFUSALS; i++) {
            counted[i] = x.status(FIRST_REFUSAL + i);
        }
        return counted;
    }
}
