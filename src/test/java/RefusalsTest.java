/**
 * Each refusal of each promise: one less than the least and one more than the greatest that may be,
 * the first that fits where several would, that status() counts it once, and that nothing else is
 * changed, neither at once nor in what comes later.
 */
public final class RefusalsTest {
    private static final int NONE = PulledSignals.NONE;
    private static final int BAD = -2;
    private static final int OTHER = -3;
    private static final int NOTHING = -4;
    private static final int STUCK = -5;
    private static final int FULL = -6;
    private static final long LONGER = -9_000_000_000L;
    private static final int MIN = Integer.MIN_VALUE;
    private static final int MAX = Integer.MAX_VALUE;

    // The cells of the world that refusals are tried in.
    private static final int SOURCE = 0;
    private static final int SOURCE_GONE = 1;
    private static final int SCOPE = 2;
    private static final int SCOPE_GONE = 3;
    private static final int MEMO = 6;
    private static final int EFFECT = 7;
    private static final int MEMO_GONE = 8;
    private static final int EFFECT_GONE = 9;
    private static final int CELLS = 14;

    // What its shelves hold.
    private static final int THREE_BYTES = 0;
    private static final int NO_SHORTS = 1;
    private static final int FOUR_INTS = 2;
    private static final int FORTY_LONGS = 3;
    private static final int TWO_INTS = 4;
    private static final int A_CELL = 5;
    private static final int EMPTY = 6;
    private static final int CELL_GONE = 7;

    private static final int[] NO_SHELVES = {-1, 8, MIN, MAX};
    private static final int[] NO_CELLS = {-1, -2, CELLS, 24, 32, 64, MIN, MAX};
    private static final int[] NO_OWNERS = {-2, SOURCE, SOURCE_GONE, SCOPE_GONE, MEMO, MEMO_GONE, EFFECT_GONE, CELLS,
        24, 34, MIN, MAX};
    private static final int[] NO_SOURCES = {-1, SCOPE, SCOPE_GONE, MEMO, MEMO_GONE, EFFECT, EFFECT_GONE, CELLS, 24,
        32, MIN, MAX};
    private static final int[] NO_OUTCOMES = {-1, -2, SCOPE, SCOPE_GONE, CELLS, 24, 32, MIN, MAX};

    private enum World { NEW, QUEUE_LEFT, BATCHES, ALL_CELLS }

    private interface Call {
        long on(PulledSignals x);
    }

    private static int wrong = 0;
    private static int tried = 0;
    private static int promise = 0;
    private static String fed = "a+";
    private static boolean takesTape = false;
    private static World world = World.QUEUE_LEFT;
    private static final String[] KNOWN = new String[3 * World.values().length * 2];

    public static void main(String[] args) {
        for (World each : new World[] {World.QUEUE_LEFT, World.BATCHES}) {
            world = each;
            shelvesAndRows();
            tapeAndCells();
            changes();
            questions();
            outcomesBeside();
            listsAndDays();
        }
        inANewObject();
        whenAllCellsAre();
        neverRefused();
        System.out.println("RefusalsTest: " + tried + " refusals, " + wrong + " wrong");
        if (wrong != 0) {
            System.exit(1);
        }
    }

    // ---- the worlds

    private static void feed(PulledSignals x, String text) {
        for (int i = 0; i < text.length(); i++) {
            x.feed(text.charAt(i));
        }
    }

    private static void memo(PulledSignals x, String text, int owner) {
        feed(x, text);
        x.memo(owner);
    }

    private static void effect(PulledSignals x, String text) {
        feed(x, text);
        x.effect(NONE);
    }

    /** Cells of all kinds, gone ones too, a queue that a flush left at its limit, and an image. */
    private static PulledSignals queueLeft() {
        PulledSignals x = new PulledSignals();
        x.source(3, NONE);
        x.source(4, NONE);
        x.scope(NONE);
        x.scope(NONE);
        x.source(5, SCOPE);
        memo(x, "a*2", SCOPE);
        memo(x, "f+e", NONE);
        effect(x, "g+a");
        memo(x, "a+1", NONE);
        effect(x, "a");
        x.dispose(SOURCE_GONE);
        x.dispose(SCOPE_GONE);
        x.dispose(MEMO_GONE);
        x.dispose(EFFECT_GONE);
        x.seed(77);
        x.image();
        memo(x, "1", NONE);
        memo(x, "k", NONE);
        x.read(11);
        feed(x, "1-l");
        x.reform(10);
        x.read(10);
        effect(x, "k+l");
        effect(x, "k+l");
        fillShelves(x);
        feed(x, fed);
        return x;
    }

    private static void fillShelves(PulledSignals x) {
        x.row(THREE_BYTES, 0, 3);
        x.row(NO_SHORTS, 1, 0);
        x.row(FOUR_INTS, 2, 4);
        x.row(FORTY_LONGS, 3, 40);
        x.row(TWO_INTS, 2, 2);
        x.show(A_CELL, 5);
        x.show(CELL_GONE, SOURCE_GONE);
        for (int i = 0; i < 3; i++) {
            x.set(THREE_BYTES, i, 11 + i);
            x.set(FOUR_INTS, i, 21 + i);
        }
        x.set(TWO_INTS, 0, 31);
        x.set(TWO_INTS, 1, 32);
        x.set(FORTY_LONGS, 39, 41);
    }

    private static PulledSignals made() {
        switch (world) {
            case NEW:
                PulledSignals bare = new PulledSignals();
                feed(bare, fed);
                return bare;
            case QUEUE_LEFT:
                return queueLeft();
            case BATCHES:
                PulledSignals x = queueLeft();
                x.begin();
                x.begin();
                x.write(SOURCE, 8);
                return x;
            default:
                PulledSignals full = queueLeft();
                for (int i = CELLS; i < 24; i++) {
                    full.source(i, NONE);
                }
                return full;
        }
    }

    // ---- what is tried of each refusal

    private static void wrong(String told) {
        wrong++;
        System.out.println("RefusalsTest " + promise + ", " + world + ": " + told);
    }

    private static void refused(String told, int refusal, Call call) {
        refusedWith(told, refusal, refusal, call);
    }

    private static void refusedLong(String told, int refusal, Call call) {
        refusedWith(told, refusal, LONGER + refusal, call);
    }

    private static void refusedWith(String told, int refusal, long answer, Call call) {
        tried++;
        PulledSignals x = made();
        int[] counted = Seen.refusals(x);
        long got = call.on(x);
        if (got != answer) {
            wrong(told + " answered " + got + ", due is " + answer);
        }
        counted[-2 - refusal]++;
        int[] countedNow = Seen.refusals(x);
        for (int i = 0; i < counted.length; i++) {
            if (countedNow[i] != counted[i]) {
                wrong(told + ": refusals " + (-2 - i) + " are " + countedNow[i] + ", due is " + counted[i]);
            }
        }
        for (int later = 0; later < 3; later++) {
            if (later > 0) {
                x = made();
                call.on(x);
            }
            goOn(x, later);
            sameAs(told + ", later " + later, Seen.of(x), unchanged(later));
        }
    }

    private static void sameAs(String told, String seen, String due) {
        String[] lines = seen.split("\n");
        String[] dues = due.split("\n");
        for (int i = 0; i < Math.max(lines.length, dues.length); i++) {
            String line = i < lines.length ? lines[i] : "no line";
            String want = i < dues.length ? dues[i] : "no line";
            if (!line.equals(want)) {
                wrong(told + ": there is\n    " + line + ", due is\n    " + want);
            }
        }
    }

    /** What a world is like later, if there was no refused call; the tape is empty behind some. */
    private static String unchanged(int later) {
        int place = (later * World.values().length + world.ordinal()) * 2 + (takesTape ? 1 : 0);
        if (!fed.equals("a+") || KNOWN[place] == null) {
            PulledSignals x = made();
            if (takesTape) {
                x.wipe();
            }
            goOn(x, later);
            if (!fed.equals("a+")) {
                return Seen.of(x);
            }
            KNOWN[place] = Seen.of(x);
        }
        return KNOWN[place];
    }

    private static void goOn(PulledSignals x, int later) {
        if (later == 1) {
            x.feed('1');
            x.memo(NONE);
            x.write(SOURCE, 9);
            x.end();
            x.set(FOUR_INTS, 3, 1);
            x.days(3);
        } else if (later == 2) {
            x.back();
            x.write(SOURCE, 2);
        }
    }

    // ---- promises 2 to 8

    private static void shelvesAndRows() {
        promise = 2;
        for (int s : NO_SHELVES) {
            refused("row in shelf " + s, BAD, x -> x.row(s, 0, 1));
        }
        for (int sort : new int[] {-1, 5, 10, MIN, MAX}) {
            refused("row of sort " + sort, BAD, x -> x.row(FOUR_INTS, sort, 1));
            refused("row of sort " + sort, BAD, x -> x.row(EMPTY, sort, 1));
        }
        for (int n : new int[] {-1, 41, MIN, MAX}) {
            refused("row of " + n, BAD, x -> x.row(FOUR_INTS, 2, n));
            refused("row of " + n, BAD, x -> x.row(A_CELL, 2, n));
        }
        setting();
        copying();
        promise = 7;
        for (int s : NO_SHELVES) {
            refused("show in shelf " + s, BAD, x -> x.show(s, SOURCE));
            refused("show none in shelf " + s, BAD, x -> x.show(s, NONE));
        }
        for (int c : new int[] {-2, CELLS, 24, 32, MIN, MAX}) {
            refused("show " + c, BAD, x -> x.show(A_CELL, c));
            refused("show " + c, BAD, x -> x.show(FOUR_INTS, c));
        }
        saying();
    }

    private static void setting() {
        promise = 3;
        for (int s : NO_SHELVES) {
            refused("set in shelf " + s, BAD, x -> x.set(s, -1, 5));
        }
        for (int i : new int[] {-1, 4, 40, MIN, MAX}) {
            refused("set at " + i, BAD, x -> x.set(FOUR_INTS, i, 5));
            refused("set in a cell", OTHER, x -> x.set(A_CELL, i, 5));
            refused("set in a cell that is gone", OTHER, x -> x.set(CELL_GONE, i, 5));
            refused("set in nothing", NOTHING, x -> x.set(EMPTY, i, 5));
        }
        refused("set in a cell", OTHER, x -> x.set(A_CELL, 0, 5));
        refused("set in nothing", NOTHING, x -> x.set(EMPTY, 0, 5));
        refused("set in no elements", BAD, x -> x.set(NO_SHORTS, 0, 5));
        refused("set behind three", BAD, x -> x.set(THREE_BYTES, 3, 5));
        refused("set behind forty", BAD, x -> x.set(FORTY_LONGS, 40, 5));
    }

    private static void copying() {
        promise = 4;
        for (int s : NO_SHELVES) {
            for (int q : new int[] {FOUR_INTS, THREE_BYTES, A_CELL, EMPTY, -1}) {
                refused("copy from shelf " + s + " to " + q, BAD, x -> x.copy(s, q, 0, 0, 1));
                refused("copy to shelf " + s + " from " + q, BAD, x -> x.copy(q, s, 0, 0, 1));
            }
        }
        for (int q : new int[] {A_CELL, CELL_GONE, EMPTY, FOUR_INTS}) {
            refused("copy from a cell to " + q, OTHER, x -> x.copy(A_CELL, q, 0, 0, 1));
            refused("copy to a cell from " + q, OTHER, x -> x.copy(q, A_CELL, -1, 0, 1));
        }
        refused("copy of two sorts", OTHER, x -> x.copy(FOUR_INTS, THREE_BYTES, 0, 0, 1));
        refused("copy of two sorts, bad n", OTHER, x -> x.copy(FOUR_INTS, FORTY_LONGS, 0, 0, -1));
        refused("copy of two sorts, bad i", OTHER, x -> x.copy(FORTY_LONGS, FOUR_INTS, 40, 0, 1));
        refused("copy of none of two sorts", OTHER, x -> x.copy(FOUR_INTS, NO_SHORTS, 0, 0, 0));
        refused("copy from nothing", NOTHING, x -> x.copy(EMPTY, FOUR_INTS, -1, 9, -1));
        refused("copy to nothing", NOTHING, x -> x.copy(FOUR_INTS, EMPTY, -1, 9, -1));
        refused("copy from nothing to nothing", NOTHING, x -> x.copy(EMPTY, EMPTY, 0, 0, 0));
        copyingPlaces();
    }

    private static void copyingPlaces() {
        int[][] bad = {{0, 0, 3}, {0, 1, 2}, {3, 0, 2}, {4, 0, 1}, {5, 0, 0}, {0, 3, 0}, {-1, 0, 1}, {0, -1, 1},
            {0, 0, -1}, {-1, 0, 0}, {0, -1, 0}, {1, 1, -1}, {MAX, 0, 1}, {0, MAX, 1}, {0, 0, MAX}, {1, 0, MAX}, {0, 1, MAX},
            {MAX, MAX, MAX}, {MIN, 0, 1}, {0, MIN, 1}, {0, 0, MIN}, {MIN, MIN, MIN}, {MAX, 0, 0}, {0, MAX, 0}};
        for (int[] b : bad) {
            String told = "copy at " + b[0] + ", " + b[1] + " of " + b[2];
            refused(told, BAD, x -> x.copy(FOUR_INTS, TWO_INTS, b[0], b[1], b[2]));
        }
        refused("copy of too many from there", BAD, x -> x.copy(TWO_INTS, FOUR_INTS, 0, 0, 3));
        refused("copy of 5 of 4", BAD, x -> x.copy(FOUR_INTS, FOUR_INTS, 0, 0, 5));
        refused("copy to behind itself", BAD, x -> x.copy(FOUR_INTS, FOUR_INTS, 0, 1, 4));
        refused("copy of 41", BAD, x -> x.copy(FORTY_LONGS, FORTY_LONGS, 0, 0, 41));
        refused("copy of one of none", BAD, x -> x.copy(NO_SHORTS, NO_SHORTS, 0, 0, 1));
    }

    private static void saying() {
        promise = 8;
        for (int s : NO_SHELVES) {
            refused("shelf " + s + " says", BAD, x -> x.says(s, 0));
        }
        for (int kind : new int[] {-1, 6, MIN, MAX}) {
            for (int s : new int[] {A_CELL, CELL_GONE, EMPTY, FOUR_INTS}) {
                refused("shelf " + s + " says kind " + kind, BAD, x -> x.says(s, kind));
            }
        }
        for (int kind = 0; kind <= 5; kind++) {
            int k = kind;
            refused("a row says kind " + kind, OTHER, x -> x.says(FOUR_INTS, k));
            refused("a row of none says kind " + kind, OTHER, x -> x.says(NO_SHORTS, k));
            refused("nothing says kind " + kind, NOTHING, x -> x.says(EMPTY, k));
        }
        for (int kind : new int[] {1, 4, 5}) {
            refused("a memo says kind " + kind, OTHER, x -> x.says(A_CELL, kind));
        }
        for (int kind : new int[] {2, 3, 4, 5}) {
            refused("a source that is gone says kind " + kind, OTHER, x -> x.says(CELL_GONE, kind));
        }
    }

    // ---- promises 9 to 15

    private static void tapeAndCells() {
        promise = 9;
        for (int letter : new int[] {-1, 256, 256 + 'a', -256 + 'a', MIN, MAX}) {
            refused("feed of " + letter, BAD, x -> x.feed(letter));
        }
        for (int owner : NO_OWNERS) {
            promise = 11;
            refused("source of " + owner, BAD, x -> x.source(5, owner));
            promise = 12;
            refused("scope of " + owner, BAD, x -> x.scope(owner));
        }
        takesTape = true;
        for (int owner : NO_OWNERS) {
            computedOf(owner);
        }
        faults();
        reforming();
        takesTape = false;
    }

    private static void computedOf(int owner) {
        promise = 13;
        refused("memo of " + owner + ", a fault on the tape", BAD, x -> x.memo(owner));
        refused("memo of " + owner, BAD, x -> fedOnce(x, "a").memo(owner));
        promise = 14;
        refused("effect of " + owner + ", a fault on the tape", BAD, x -> x.effect(owner));
        refused("effect of " + owner, BAD, x -> fedOnce(x, "a").effect(owner));
    }

    private static PulledSignals fedOnce(PulledSignals x, String text) {
        feed(x, text);
        return x;
    }

    private static PulledSignals fedAlone(PulledSignals x, String text) {
        x.wipe();
        return fedOnce(x, text);
    }

    private static void faults() {
        String[] texts = {"", "a+", "o", "1234", "(1", "~", "-", "1<2<3", "^1", "[1?2]"};
        int[] places = {0, 2, 0, 3, 2, 1, 1, 3, 1, 4};
        for (int i = 0; i < texts.length; i++) {
            String text = texts[i];
            int answer = -200 - places[i];
            promise = 13;
            refusedWith("memo " + text, BAD, answer, x -> fedAlone(x, text).memo(NONE));
            refusedWith("memo in a scope " + text, BAD, answer, x -> fedAlone(x, text).memo(SCOPE));
            promise = 14;
            refusedWith("effect " + text, BAD, answer, x -> fedAlone(x, text).effect(NONE));
            refusedWith("effect in an effect " + text, BAD, answer, x -> fedAlone(x, text).effect(EFFECT));
            promise = 15;
            refusedWith("reform of a memo " + text, BAD, answer, x -> fedAlone(x, text).reform(MEMO));
            refusedWith("reform of an effect " + text, BAD, answer, x -> fedAlone(x, text).reform(EFFECT));
        }
    }

    private static void reforming() {
        promise = 15;
        for (int c : new int[] {-1, -2, SOURCE, SOURCE_GONE, SCOPE, SCOPE_GONE, CELLS, 24, 38, MIN, MAX}) {
            refused("reform of " + c + ", a fault on the tape", BAD, x -> x.reform(c));
            refused("reform of " + c, BAD, x -> fedOnce(x, "a").reform(c));
        }
        for (int c : new int[] {MEMO_GONE, EFFECT_GONE}) {
            refused("reform of " + c + ", a fault on the tape", STUCK, x -> x.reform(c));
            refused("reform of " + c, STUCK, x -> fedOnce(x, "a").reform(c));
        }
    }

    // ---- promises 16 to 20

    private static void changes() {
        promise = 16;
        for (int c : NO_SOURCES) {
            refused("write to " + c, BAD, x -> x.write(c, 99));
        }
        refused("write to a source that is gone", STUCK, x -> x.write(SOURCE_GONE, 99));
        refused("write of what it had", STUCK, x -> x.write(SOURCE_GONE, 4));
        if (world == World.QUEUE_LEFT) {
            promise = 18;
            refused("end", STUCK, x -> x.end());
        }
        promise = 19;
        for (int c : NO_CELLS) {
            refused("dispose of " + c, BAD, x -> x.dispose(c));
        }
        for (int c : new int[] {SOURCE_GONE, SCOPE_GONE, MEMO_GONE, EFFECT_GONE}) {
            refused("dispose of " + c, STUCK, x -> x.dispose(c));
        }
        promise = 20;
        for (int c : NO_OUTCOMES) {
            refusedLong("read of " + c, BAD, x -> x.read(c));
        }
        for (int c : new int[] {SOURCE_GONE, MEMO_GONE, EFFECT_GONE}) {
            refusedLong("read of " + c, STUCK, x -> x.read(c));
        }
    }

    // ---- promises 21 to 24

    private static void questions() {
        promise = 21;
        for (int c : NO_OUTCOMES) {
            refusedLong("kept of " + c, BAD, x -> x.kept(c));
        }
        promise = 22;
        for (int c : NO_CELLS) {
            refused("cellOf " + c, BAD, x -> x.cellOf(c, 0));
            refused("cellOf " + c + ", 11", BAD, x -> x.cellOf(c, 11));
        }
        for (int what : new int[] {-1, 11, MIN, MAX}) {
            refused("cellOf 0, " + what, BAD, x -> x.cellOf(SOURCE, what));
            refused("cellOf 6, " + what, BAD, x -> x.cellOf(MEMO, what));
        }
        promise = 23;
        for (int c : NO_CELLS) {
            refused("reads of " + c, BAD, x -> x.reads(c, 0));
        }
        for (int i : new int[] {-1, 2, 24, MIN, MAX}) {
            refused("reads of a memo, " + i, BAD, x -> x.reads(MEMO, i));
        }
        for (int c : new int[] {SOURCE, SCOPE, SOURCE_GONE, MEMO_GONE, EFFECT_GONE}) {
            refused("reads of " + c, BAD, x -> x.reads(c, 0));
        }
        promise = 24;
        for (int c : new int[] {-1, -2, SOURCE, SOURCE_GONE, SCOPE, SCOPE_GONE, CELLS, 24, 32, MIN, MAX}) {
            refused("spelled of " + c, BAD, x -> x.spelled(c, 0));
            refused("spelled of " + c + ", -1", BAD, x -> x.spelled(c, -1));
        }
    }

    // ---- promises 25 to 30

    private static void outcomesBeside() {
        for (int c : NO_OUTCOMES) {
            promise = 25;
            refusedLong("plain of " + c, BAD, x -> x.plain(c));
            promise = 26;
            refusedLong("whatIf of " + c, BAD, x -> x.whatIf(SOURCE, 1, c));
            promise = 27;
            refused("aim of " + c, BAD, x -> x.aim(SOURCE, c, 1));
        }
        for (int s : NO_SOURCES) {
            promise = 26;
            refusedLong("whatIf " + s, BAD, x -> x.whatIf(s, 1, MEMO));
            refusedLong("whatIf " + s + " of itself", BAD, x -> x.whatIf(s, 1, s));
            promise = 27;
            refused("aim by " + s, BAD, x -> x.aim(s, MEMO, 1));
            refused("aim by " + s + " of what is none", BAD, x -> x.aim(s, SCOPE, 1));
            promise = 28;
            refused("news of " + s, BAD, x -> x.news(s, 1));
        }
        promise = 29;
        for (int c : NO_CELLS) {
            refused("reaches from " + c, BAD, x -> x.reaches(c, SOURCE));
            refused("reaches " + c, BAD, x -> x.reaches(MEMO, c));
            refused("reaches " + c + " from there", BAD, x -> x.reaches(c, c));
        }
        promise = 30;
        for (int colour : new int[] {-1, 3, MIN, MAX}) {
            refused("colours " + colour, BAD, x -> x.colours(colour));
        }
    }

    // ---- promises 32 to 37

    private static void listsAndDays() {
        for (int i : new int[] {-1, 60, 61, MIN, MAX}) {
            promise = 32;
            refused("log " + i, BAD, x -> x.log(i));
            promise = 33;
            refusedLong("logged " + i, BAD, x -> x.logged(i));
        }
        promise = 34;
        for (int i : new int[] {-1, 4, 60, MIN, MAX}) {
            refused("disposed " + i, BAD, x -> x.disposed(i));
        }
        promise = 35;
        int queued = made().status(3);
        for (int i : new int[] {-1, queued, 24, MIN, MAX}) {
            refused("queued " + i, BAD, x -> x.queued(i));
        }
        judging();
        promise = 37;
        for (int n : new int[] {-1, 0, 61, MIN, MAX}) {
            refused("days " + n, BAD, x -> x.days(n));
        }
    }

    private static void judging() {
        promise = 36;
        for (int s : NO_SHELVES) {
            refused("judge of shelf " + s, BAD, x -> x.judge(s, 0));
        }
        for (int n : new int[] {-1, 21, MIN, MAX}) {
            for (int s : new int[] {FORTY_LONGS, A_CELL, EMPTY}) {
                refused("judge of shelf " + s + ", " + n, BAD, x -> x.judge(s, n));
            }
        }
        for (int n : new int[] {0, 1, 20}) {
            refused("judge of a cell, " + n, OTHER, x -> x.judge(A_CELL, n));
            refused("judge of a cell that is gone, " + n, OTHER, x -> x.judge(CELL_GONE, n));
            refused("judge of nothing, " + n, NOTHING, x -> x.judge(EMPTY, n));
        }
        refused("judge of no elements", BAD, x -> x.judge(NO_SHORTS, 1));
        refused("judge of two twos of three", BAD, x -> x.judge(THREE_BYTES, 2));
        refused("judge of three twos of four", BAD, x -> x.judge(FOUR_INTS, 3));
        refused("judge of 20 twos of four", BAD, x -> x.judge(FOUR_INTS, 20));
    }

    // ---- other worlds

    private static void inANewObject() {
        world = World.NEW;
        promise = 37;
        refused("days without cells", STUCK, x -> x.days(1));
        refused("60 days without cells", STUCK, x -> x.days(60));
        refused("no days without cells", BAD, x -> x.days(0));
        refused("61 days without cells", BAD, x -> x.days(61));
        promise = 40;
        refused("back", STUCK, x -> x.back());
        promise = 18;
        refused("end", STUCK, x -> x.end());
        promise = 1;
        refused("show", BAD, x -> x.show(0, 0));
        refused("a shelf says", NOTHING, x -> x.says(7, 0));
        refused("set", NOTHING, x -> x.set(0, 0, 1));
        refused("source of 0", BAD, x -> x.source(1, 0));
        refused("scope of 0", BAD, x -> x.scope(0));
        refusedLong("read", BAD, x -> x.read(0));
        refused("log", BAD, x -> x.log(0));
        refusedLong("logged", BAD, x -> x.logged(0));
        refused("disposed", BAD, x -> x.disposed(0));
        refused("queued", BAD, x -> x.queued(0));
        refused("judge", NOTHING, x -> x.judge(0, 0));
        promise = 9;
        fed = "a".repeat(250);
        refused("a 251st byte", FULL, x -> x.feed(0));
        refused("a 251st byte", FULL, x -> x.feed(255));
        refused("256 ahead of full", BAD, x -> x.feed(256));
        refused("-1 ahead of full", BAD, x -> x.feed(-1));
        fed = "a+";
    }

    private static void whenAllCellsAre() {
        world = World.ALL_CELLS;
        for (int owner : new int[] {NONE, SCOPE, EFFECT}) {
            promise = 11;
            refused("a 25th cell", FULL, x -> x.source(1, owner));
            promise = 12;
            refused("a 25th cell", FULL, x -> x.scope(owner));
            takesTape = true;
            promise = 13;
            refused("a 25th cell", FULL, x -> fedOnce(x, "a").memo(owner));
            refusedWith("a fault ahead of full", BAD, -202, x -> x.memo(owner));
            promise = 14;
            refused("a 25th cell", FULL, x -> fedOnce(x, "x").effect(owner));
            refusedWith("a fault ahead of full", BAD, -202, x -> fedOnce(x, "y").effect(owner));
            takesTape = false;
        }
        for (int owner : new int[] {-2, SOURCE, SCOPE_GONE, MEMO, 23, 24}) {
            promise = 11;
            refused("the owner ahead of full", BAD, x -> x.source(1, owner));
            promise = 12;
            refused("the owner ahead of full", BAD, x -> x.scope(owner));
            takesTape = true;
            computedOf(owner);
            takesTape = false;
        }
        promise = 7;
        refused("show 24", BAD, x -> x.show(EMPTY, 24));
        promise = 22;
        refused("cellOf 24", BAD, x -> x.cellOf(24, 0));
        promise = 15;
        takesTape = true;
        refusedWith("no letter behind x", BAD, -202, x -> fedOnce(x, "y").reform(MEMO));
        refusedWith("no letter ahead of a", BAD, -202, x -> fedOnce(x, "`").reform(MEMO));
        takesTape = false;
    }

    // ---- what the document says isn't refused

    private static void neverRefused() {
        world = World.QUEUE_LEFT;
        free(5, "element", 0, new int[] {-1, 8, MIN, MAX, A_CELL, EMPTY, CELL_GONE, NO_SHORTS}, (x, s) -> x.element(s, 0));
        free(5, "element at", 0, new int[] {-1, 4, 40, MIN, MAX}, (x, i) -> x.element(FOUR_INTS, i));
        free(6, "holds", NONE, new int[] {-1, 8, MIN, MAX, EMPTY}, (x, s) -> x.holds(s));
        free(24, "spelled", NONE, new int[] {-1, 5, 750, MIN, MAX}, (x, i) -> x.spelled(MEMO, i));
        free(29, "reaches", 0, new int[] {SOURCE, SCOPE, SCOPE_GONE, MEMO_GONE}, (x, c) -> x.reaches(c, c));
        free(31, "signs", 0, new int[] {0, 1, 7}, (x, y) -> x.signs(3, y, 99));
        free(36, "judge", NONE, new int[] {0}, (x, n) -> x.judge(NO_SHORTS, n));
        free(36, "judge of another", 0, new int[] {1, 20}, (x, n) -> x.judge(FORTY_LONGS, n));
        free(41, "status", NONE, new int[] {-1, 10, 11, 17, MIN, MAX}, (x, what) -> x.status(what));
        world = World.NEW;
        free(10, "wipe", 0, new int[] {0}, (x, n) -> fedAlone(x, "").wipe());
        free(30, "colours", 0, new int[] {0, 1, 2}, (x, colour) -> x.colours(colour));
    }

    private interface Asked {
        long on(PulledSignals x, int n);
    }

    private static void free(int number, String told, long answer, int[] asked, Asked call) {
        promise = number;
        for (int n : asked) {
            tried++;
            PulledSignals x = made();
            int[] counted = Seen.refusals(x);
            long got = call.on(x, n);
            if (got != answer) {
                wrong(told + " " + n + " answered " + got + ", due is " + answer);
            }
            int[] countedNow = Seen.refusals(x);
            for (int i = 0; i < counted.length; i++) {
                if (countedNow[i] != counted[i]) {
                    wrong(told + " " + n + " is counted as refused " + (-2 - i));
                }
            }
        }
    }
}
