/** What is due of an answer, and the calls that every test makes again and again. */
final class Due {
    static final int NONE = PulledSignals.NONE;
    static final int MIN = Integer.MIN_VALUE;
    static final int MAX = Integer.MAX_VALUE;
    static final long ZERO = 4_000_000_001L;
    static final long RING = 4_000_000_002L;
    static final long UNREADABLE = 4_000_000_003L;

    private final String test;
    private String sentence = "";
    private int tested;
    private int wrong;

    Due(String test) {
        this.test = test;
    }

    /** What the document says that is tried from here on. */
    void says(String told) {
        sentence = told;
    }

    void is(String told, long got, long want) {
        tested++;
        if (got != want) {
            wrong(told, String.valueOf(got), String.valueOf(want));
        }
    }

    void text(String told, String got, String want) {
        tested++;
        if (!got.equals(want)) {
            wrong(told, got, want);
        }
    }

    private void wrong(String told, String got, String want) {
        wrong++;
        System.out.println(test + ", \"" + sentence + "\": " + told + " is " + got + ", due is " + want);
    }

    void end() {
        System.out.println(test + ": " + tested + " answers, " + wrong + " wrong");
        if (wrong != 0) {
            System.exit(1);
        }
    }

    static void feed(PulledSignals x, String text) {
        for (int i = 0; i < text.length(); i++) {
            x.feed(text.charAt(i));
        }
    }

    static int memo(PulledSignals x, String text) {
        return memo(x, text, NONE);
    }

    static int memo(PulledSignals x, String text, int owner) {
        feed(x, text);
        return x.memo(owner);
    }

    static int effect(PulledSignals x, String text) {
        return effect(x, text, NONE);
    }

    static int effect(PulledSignals x, String text, int owner) {
        feed(x, text);
        return x.effect(owner);
    }

    static int reform(PulledSignals x, int cell, String text) {
        feed(x, text);
        return x.reform(cell);
    }

    static PulledSignals withSources(int... numbers) {
        PulledSignals x = new PulledSignals();
        for (int v : numbers) {
            x.source(v, NONE);
        }
        return x;
    }

    /** READS of a cell as letters, in their order. */
    static String reads(PulledSignals x, int cell) {
        StringBuilder text = new StringBuilder();
        for (int i = 0; i < x.cellOf(cell, 6); i++) {
            text.append((char) ('a' + x.reads(cell, i)));
        }
        return text.toString();
    }

    /** THE QUEUE as letters. */
    static String queue(PulledSignals x) {
        StringBuilder text = new StringBuilder();
        for (int i = 0; i < x.status(3); i++) {
            text.append((char) ('a' + x.queued(i)));
        }
        return text.toString();
    }

    /** THE DISPOSED as letters. */
    static String disposed(PulledSignals x) {
        StringBuilder text = new StringBuilder();
        for (int i = 0; i < Math.min(60, x.status(5)); i++) {
            text.append((char) ('a' + x.disposed(i)));
        }
        return text.toString();
    }

    /** Of each cell its colour: . CLEAN, ? CHECK, ! DIRTY; a blank, if it is gone. */
    static String colours(PulledSignals x) {
        StringBuilder text = new StringBuilder();
        for (int c = 0; c < x.status(0); c++) {
            text.append(x.cellOf(c, 2) == 1 ? ' ' : ".?!".charAt(x.cellOf(c, 3)));
        }
        return text.toString();
    }

    /** Of each cell its RUNS, a digit each. */
    static String runs(PulledSignals x) {
        StringBuilder text = new StringBuilder();
        for (int c = 0; c < x.status(0); c++) {
            text.append(x.cellOf(c, 5));
        }
        return text.toString();
    }
}
