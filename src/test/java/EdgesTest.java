/**
 * Promises 1 to 41 at their edges, where the call isn't refused: the least and the greatest that may
 * be, empty and full, wrap-arounds, and what is gone. What is refused stands in RefusalsTest.
 */
public final class EdgesTest {
    private static final Due due = new Due("EdgesTest");
    private static final int NONE = Due.NONE;
    private static final int MIN = Due.MIN;
    private static final int MAX = Due.MAX;

    public static void main(String[] args) {
        aNewObject();
        rows();
        rowsAnew();
        setting();
        copying();
        copyingOverItself();
        elements();
        holding();
        showing();
        saying();
        sayingOfGone();
        feeding();
        wiping();
        newSourcesAndScopes();
        newComputed();
        owners();
        theTapeAfterwards();
        theTwentyFourth();
        theFirst();
        theFirstAsAnEffect();
        readingEachKind();
        readingAheadOfTheFlush();
        keeping();
        disposingCounts();
        cellsOf();
        readsOf();
        plainly();
        plainlyChangesNothing();
        plainlyOfGone();
        plainRings();
        whatIfs();
        aims();
        news();
        reaching();
        colouring();
        signs();
        theLists();
        judging();
        judgingEachSort();
        judgingAll();
        draws();
        drawsOfCells();
        days();
        seeds();
        images();
        imagesOfMarks();
        numbersUsedAgain();
        cellsThatCameAnew();
        imagesOfLongLogs();
        backAndBack();
        statuses();
        due.end();
    }

    // ---- promises 1 to 8

    private static void aNewObject() {
        due.says("1: No CELLS; SHELVES hold NOTHING; THE TAPE is empty");
        PulledSignals x = new PulledSignals();
        int[] want = {0, 0, 0, 0, 0, 0, 0, 0, 1, 0, NONE, NONE, 0, 0, 0, 0, 0, NONE};
        for (int what = 0; what < want.length; what++) {
            due.is("status " + what, x.status(what), want[what]);
        }
        for (int s = 0; s < 8; s++) {
            due.is("shelf " + s, x.holds(s), NONE);
            due.is("its element", x.element(s, 0), 0);
        }
        due.is("wipe", x.wipe(), 0);
        due.is("colours", x.colours(0) + x.colours(1) + x.colours(2), 0);
        due.is("seed", x.seed(1), 1);
        due.is("begin", x.begin(), 1);
        due.is("image", x.image(), 1);
        due.is("source", x.source(0, NONE), 0);
    }

    private static void rows() {
        due.says("2: a new ROW, SORT 0 to 4 and 0 to 40 elements, 0 or not so at first");
        for (int sort = 0; sort <= 4; sort++) {
            for (int n : new int[] {0, 1, 2, 39, 40}) {
                PulledSignals x = new PulledSignals();
                for (int s : new int[] {0, 7}) {
                    due.is("row", x.row(s, sort, n), 1);
                    due.is("holds", x.holds(s), sort);
                    for (int i = 0; i < 41; i++) {
                        due.is("element " + i, x.element(s, i), 0);
                    }
                    if (n > 0) {
                        due.is("set the first", x.set(s, 0, 1), 1);
                        due.is("set the last", x.set(s, n - 1, 1), 1);
                        due.is("the last", x.element(s, n - 1), 1);
                    }
                    due.is("set behind it", x.set(s, n, 1), -2);
                }
                due.is("shelves", x.status(9), 2);
            }
        }
    }

    private static void rowsAnew() {
        due.says("2: SHELF s holds a new ROW");
        PulledSignals x = Due.withSources(5);
        x.row(3, 3, 40);
        for (int i = 0; i < 40; i++) {
            x.set(3, i, i + 1);
        }
        due.is("a shorter one", x.row(3, 3, 2), 1);
        due.is("first", x.element(3, 0), 0);
        due.is("behind it", x.element(3, 2), 0);
        x.set(3, 1, 9);
        due.is("a longer one", x.row(3, 2, 40), 1);
        for (int i = 0; i < 40; i++) {
            due.is("element " + i, x.element(3, i), 0);
        }
        x.set(3, 39, 9);
        x.show(3, 0);
        due.is("behind a cell", x.row(3, 2, 40), 1);
        due.is("the last", x.element(3, 39), 0);
        due.is("another shelf", x.holds(2), NONE);
        due.is("shelves", x.status(9), 1);
    }

    private static void setting() {
        due.says("3: what is put in keeps its lowest bits (of booleans: whether it is not 0)");
        long[][] bytes = {{127, 127}, {128, -128}, {255, -1}, {256, 0}, {-128, -128}, {-129, 127}, {1L << 40, 0}};
        long[][] shorts = {{32767, 32767}, {32768, -32768}, {65535, -1}, {65536, 0}, {-32769, 32767}, {1L << 40, 0}};
        long[][] ints = {{MAX, MAX}, {1L << 31, MIN}, {(1L << 32) - 1, -1}, {1L << 32, 0}, {-(1L << 31) - 1, MAX},
            {4_000_000_001L, -294_967_295}};
        long[][] longs = {{Long.MAX_VALUE, Long.MAX_VALUE}, {Long.MIN_VALUE, Long.MIN_VALUE}, {1L << 32, 1L << 32},
            {-1, -1}, {4_000_000_001L, 4_000_000_001L}};
        long[][] booleans = {{1, 1}, {-1, 1}, {2, 1}, {256, 1}, {1L << 32, 1}, {Long.MIN_VALUE, 1}, {0, 0}};
        long[][][] all = {bytes, shorts, ints, longs, booleans};
        for (int sort = 0; sort < all.length; sort++) {
            PulledSignals x = new PulledSignals();
            x.row(0, sort, 3);
            for (long[] two : all[sort]) {
                for (int i = 0; i < 3; i++) {
                    due.is("set", x.set(0, i, two[0]), 1);
                    due.is("sort " + sort + " of " + two[0], x.element(0, i), two[1]);
                    due.is("set", x.set(0, i, 0), 1);
                    due.is("and 0", x.element(0, i), 0);
                }
            }
        }
    }

    private static PulledSignals withRow(int sort, int n) {
        PulledSignals x = new PulledSignals();
        x.row(0, sort, n);
        for (int i = 0; i < n; i++) {
            x.set(0, i, i + 1);
        }
        return x;
    }

    private static void dueRow(PulledSignals x, int s, int... want) {
        for (int i = 0; i < want.length; i++) {
            due.is("element " + i + " of shelf " + s, x.element(s, i), want[i]);
        }
    }

    private static void copying() {
        due.says("4: n elements of the ROW in SHELF p from place i on come to places j on of that in q");
        for (int sort = 0; sort < 4; sort++) {
            PulledSignals x = withRow(sort, 4);
            x.row(7, sort, 3);
            due.is("of 0", x.copy(0, 7, 0, 0, 0), 0);
            dueRow(x, 7, 0, 0, 0);
            due.is("of 0 at the ends", x.copy(0, 7, 4, 3, 0), 0);
            due.is("of 1, the last of both", x.copy(0, 7, 3, 2, 1), 1);
            dueRow(x, 7, 0, 0, 4);
            due.is("of 3, the first ones", x.copy(0, 7, 0, 0, 3), 3);
            dueRow(x, 7, 1, 2, 3);
            due.is("of 3, the last ones", x.copy(0, 7, 1, 0, 3), 3);
            dueRow(x, 7, 2, 3, 4);
            due.is("back", x.copy(7, 0, 0, 1, 2), 2);
            dueRow(x, 0, 1, 2, 3, 4);
            due.is("back", x.copy(7, 0, 1, 0, 2), 2);
            dueRow(x, 0, 3, 4, 3, 4);
            dueRow(x, 7, 2, 3, 4);
        }
        PulledSignals y = withRow(4, 2);
        y.set(0, 0, 0);
        y.row(1, 4, 40);
        due.is("of booleans", y.copy(0, 1, 0, 38, 2), 2);
        due.is("the last but one", y.element(1, 38), 0);
        due.is("the last", y.element(1, 39), 1);
        y.row(2, 4, 40);
        due.is("of 40", y.copy(1, 2, 0, 0, 40), 40);
        due.is("the last", y.element(2, 39), 1);
        y.row(3, 4, 0);
        due.is("of none", y.copy(3, 3, 0, 0, 0), 0);
        due.is("of none to some", y.copy(3, 2, 0, 40, 0), 0);
    }

    private static void copyingOverItself() {
        due.says("4: (as they were)");
        PulledSignals x = withRow(3, 6);
        due.is("one up", x.copy(0, 0, 0, 1, 5), 5);
        dueRow(x, 0, 1, 1, 2, 3, 4, 5);
        due.is("two down", x.copy(0, 0, 2, 0, 4), 4);
        dueRow(x, 0, 2, 3, 4, 5, 4, 5);
        due.is("to its place", x.copy(0, 0, 0, 0, 6), 6);
        dueRow(x, 0, 2, 3, 4, 5, 4, 5);
        due.is("two up", x.copy(0, 0, 1, 3, 3), 3);
        dueRow(x, 0, 2, 3, 4, 3, 4, 5);
        due.is("one down", x.copy(0, 0, 1, 0, 5), 5);
        dueRow(x, 0, 3, 4, 3, 4, 5, 5);
    }

    private static void elements() {
        due.says("5: Element i of the ROW; 0: none, no ROW (nothing is refused)");
        PulledSignals x = withRow(2, 40);
        x.source(3, NONE);
        x.show(1, 0);
        due.is("first", x.element(0, 0), 1);
        due.is("last", x.element(0, 39), 40);
        for (int i : new int[] {-1, 40, 41, MIN, MAX}) {
            due.is("at " + i, x.element(0, i), 0);
            due.is("of a cell", x.element(1, i), 0);
            due.is("of nothing", x.element(2, i), 0);
        }
        for (int s : new int[] {-1, 8, MIN, MAX}) {
            due.is("in shelf " + s, x.element(s, 0), 0);
        }
        x.show(0, 0);
        due.is("a cell in its place", x.element(0, 0), 0);
        x.show(0, NONE);
        due.is("nothing in its place", x.element(0, 39), 0);
        due.is("refused", x.status(12) + x.status(13) + x.status(14), 0);
    }

    private static void holding() {
        due.says("6: NONE NOTHING, no SHELF; 0 to 4 a ROW by its SORT; 10 and the number of a CELL");
        PulledSignals x = new PulledSignals();
        for (int c = 0; c < 24; c++) {
            x.scope(NONE);
            x.show(c % 8, c);
            due.is("cell " + c, x.holds(c % 8), 10 + c);
        }
        due.is("shelves", x.status(9), 8);
        for (int s = 0; s < 8; s++) {
            x.row(s, s % 5, s);
            due.is("row", x.holds(s), s % 5);
        }
        due.is("shelves", x.status(9), 8);
        for (int s = 0; s < 8; s++) {
            x.show(s, NONE);
            due.is("nothing", x.holds(s), NONE);
            due.is("shelves", x.status(9), 7 - s);
        }
        for (int s : new int[] {-1, 8, MIN, MAX}) {
            due.is("shelf " + s, x.holds(s), NONE);
        }
        due.is("refused", x.status(12), 0);
    }

    private static void showing() {
        due.says("7: SHELF s holds a CELL (GONE or not), or NOTHING (cell NONE)");
        PulledSignals x = Due.withSources(5, 6);
        for (int s : new int[] {0, 7}) {
            due.is("nothing", x.show(s, NONE), 1);
            due.is("holds", x.holds(s), NONE);
            due.is("the first", x.show(s, 0), 1);
            due.is("holds", x.holds(s), 10);
            due.is("the last", x.show(s, 1), 1);
            due.is("holds", x.holds(s), 11);
        }
        x.dispose(0);
        due.is("held still", x.holds(7), 11);
        due.is("one that is gone", x.show(7, 0), 1);
        due.is("holds", x.holds(7), 10);
        due.is("the same in two", x.show(0, 0), 1);
        due.is("holds", x.holds(0), 10);
        due.is("refused", x.status(12), 0);
        x.row(1, 2, 3);
        due.is("in a row's place", x.show(1, NONE), 1);
        due.is("holds", x.holds(1), NONE);
    }

    private static PulledSignals oneOfEachKind() {
        PulledSignals x = new PulledSignals();
        x.scope(NONE);
        x.source(1, 0);
        Due.memo(x, "b", 0);
        Due.effect(x, "c+b", 0);
        x.source(9, 3);
        x.scope(3);
        for (int c = 0; c < 4; c++) {
            x.show(c, c);
        }
        return x;
    }

    private static void dueSaid(PulledSignals x, int[][] want) {
        for (int c = 0; c < want.length; c++) {
            for (int kind = 0; kind <= 5; kind++) {
                due.is("cell " + c + " as " + kind, x.says(c, kind), want[c][kind]);
            }
        }
    }

    private static void saying() {
        due.says("8: What the CELL in SHELF s, taken for one of a KIND, says");
        PulledSignals x = oneOfEachKind();
        dueSaid(x, new int[][] {
            {NONE, -3, -3, -3, -3, 3}, {0, 0, -3, -3, -3, -3}, {0, -3, 1, 1, -3, -3}, {0, -3, 2, -3, 1, -3}});
        due.is("refused", x.status(13), 14);
        x.begin();
        x.write(1, 2);
        x.write(1, 3);
        dueSaid(x, new int[][] {
            {NONE, -3, -3, -3, -3, 3}, {0, 2, -3, -3, -3, -3}, {0, -3, 1, 1, -3, -3}, {0, -3, 2, -3, 1, -3}});
        x.end();
        dueSaid(x, new int[][] {
            {NONE, -3, -3, -3, -3, 3}, {0, 2, -3, -3, -3, -3}, {0, -3, 1, 2, -3, -3}, {0, -3, 2, -3, 2, -3}});
        PulledSignals y = new PulledSignals();
        Due.memo(y, "7");
        y.show(7, 0);
        due.is("no reads yet", y.says(7, 2), 0);
        due.is("no version yet", y.says(7, 3), 0);
        y.begin();
        Due.effect(y, "a");
        y.show(6, 1);
        due.is("not in the log yet", y.says(6, 4), 0);
    }

    private static void sayingOfGone() {
        due.says("8: how many CELLS it OWNS that aren't GONE");
        PulledSignals x = oneOfEachKind();
        x.dispose(2);
        dueSaid(x, new int[][] {
            {NONE, -3, -3, -3, -3, 2}, {0, 0, -3, -3, -3, -3}, {0, -3, 0, 1, -3, -3}, {0, -3, 0, -3, 2, -3}});
        x.dispose(0);
        dueSaid(x, new int[][] {
            {NONE, -3, -3, -3, -3, 0}, {0, 0, -3, -3, -3, -3}, {0, -3, 0, 1, -3, -3}, {0, -3, 0, -3, 2, -3}});
    }

    // ---- promises 9 to 15

    private static void feeding() {
        due.says("9: THE TAPE gets one byte (0 to 255) behind it: its size");
        PulledSignals x = new PulledSignals();
        for (int i = 0; i < 250; i++) {
            due.is("byte " + i, x.feed(i), i + 1);
        }
        due.is("size", x.status(7), 250);
        due.is("wipe", x.wipe(), 250);
        for (int i = 250; i < 256; i++) {
            due.is("byte " + i, x.feed(i), i - 249);
        }
        due.is("size", x.status(7), 6);
        due.is("refused", x.status(12) + x.status(16), 0);
    }

    private static void wiping() {
        due.says("10: THE TAPE is empty: its size ahead");
        PulledSignals x = Due.withSources(1);
        due.is("empty", x.wipe(), 0);
        Due.feed(x, "a");
        due.is("one", x.wipe(), 1);
        due.is("empty now", x.wipe(), 0);
        due.is("size", x.status(7), 0);
        due.is("nothing is left on it", x.memo(NONE), -200);
        Due.feed(x, "a*");
        x.wipe();
        due.is("but what is fed then", Due.memo(x, "5"), 1);
        due.is("read", x.read(1), 5);
    }

    private static void dueNew(PulledSignals x, int c, int kind, int owner, int colour, long outcome) {
        int[] want = {kind, owner, 0, colour, 0, 0, 0, 0, 0, 0, 0};
        for (int what = 0; what < want.length; what++) {
            due.is("cellOf " + c + ", " + what, x.cellOf(c, what), want[what]);
        }
        if (kind != 5) {
            due.is("kept " + c, x.kept(c), outcome);
        }
    }

    private static void newSourcesAndScopes() {
        due.says("11, 12: A SOURCE, a SCOPE: its number");
        PulledSignals x = new PulledSignals();
        int[] numbers = {0, 1, -1, MIN, MAX};
        for (int i = 0; i < numbers.length; i++) {
            due.is("source", x.source(numbers[i], NONE), i);
            dueNew(x, i, 1, NONE, 0, numbers[i]);
            due.is("read", x.read(i), numbers[i]);
            due.is("plain", x.plain(i), numbers[i]);
        }
        due.is("scope", x.scope(NONE), 5);
        dueNew(x, 5, 5, NONE, 0, 0);
        due.is("scope of it", x.scope(5), 6);
        dueNew(x, 6, 5, 5, 0, 0);
        due.is("source of it", x.source(3, 6), 7);
        dueNew(x, 7, 1, 6, 0, 3);
    }

    private static void newComputed() {
        due.says("13, 14: A new COMPUTED is DIRTY, its OUTCOME 0, no READS");
        PulledSignals x = Due.withSources(4);
        x.scope(NONE);
        due.is("memo", Due.memo(x, "a+1", 1), 2);
        dueNew(x, 2, 3, 1, 2, 0);
        x.begin();
        due.is("effect", Due.effect(x, "c+a", 1), 3);
        due.is("in the queue", x.cellOf(3, 9), 1);
        due.is("colour", x.cellOf(3, 3), 2);
        due.is("outcome", x.kept(3), 0);
        due.is("version, runs, reads", x.cellOf(3, 4) + x.cellOf(3, 5) + x.cellOf(3, 6), 0);
        due.is("log", x.status(4), 0);
        x.end();
        due.is("outcome", x.kept(3), 9);
        due.is("an effect without a batch", Due.effect(x, "5"), 4);
        int[] want = {4, NONE, 0, 0, 1, 1, 0, 0, 0, 0, 0};
        for (int what = 0; what < want.length; what++) {
            due.is("has run: " + what, x.cellOf(4, what), want[what]);
        }
        due.is("logged", x.log(1) * 10 + x.logged(1), 45);
        due.is("a memo without a batch doesn't run", x.cellOf(Due.memo(x, "5"), 5), 0);
    }

    private static void owners() {
        due.says("Each has an OWNER: NONE, or a SCOPE or EFFECT that isn't GONE");
        PulledSignals x = new PulledSignals();
        x.scope(NONE);
        Due.effect(x, "1");
        for (int owner = 0; owner < 2; owner++) {
            int c = x.status(0);
            due.is("source", x.source(5, owner), c);
            due.is("scope", x.scope(owner), c + 1);
            due.is("memo", Due.memo(x, "2", owner), c + 2);
            due.is("effect", Due.effect(x, "3", owner), c + 3);
            for (int i = c; i < c + 4; i++) {
                due.is("owner of " + i, x.cellOf(i, 1), owner);
            }
            due.is("owns", x.cellOf(owner, 8), 0b1111 << c);
        }
        due.is("owns of an owned one", x.source(1, 9), 10);
        due.is("its owner owns no more", x.cellOf(1, 8), 0b1111 << 6);
        x.dispose(8);
        due.is("gone", x.cellOf(1, 8), 0b1011 << 6);
        due.is("owner of what is gone", x.cellOf(8, 1), 1);
    }

    private static void theTapeAfterwards() {
        due.says("13, 14, 15: THE TAPE is empty then, in any case");
        PulledSignals x = Due.withSources(1);
        Due.memo(x, "a");
        due.is("memo", x.status(7), 0);
        Due.effect(x, "a");
        due.is("effect", x.status(7), 0);
        Due.reform(x, 1, "a+1");
        due.is("reform", x.status(7), 0);
        due.is("an empty one", x.memo(NONE), -200);
        due.is("an empty one", x.effect(NONE), -200);
        due.is("an empty one", x.reform(1), -200);
        due.is("refused", x.status(12), 3);
        Due.feed(x, "a");
        x.source(1, NONE);
        x.scope(NONE);
        x.write(0, 5);
        x.dispose(2);
        x.image();
        x.back();
        due.is("other calls leave it", x.status(7), 1);
        due.is("memo", x.memo(NONE), 5);
        due.is("read", x.read(5), 5);
    }

    private static void theTwentyFourth() {
        due.says("CELLS have numbers, 0 on, 24 at most");
        PulledSignals x = Due.withSources(5);
        for (int i = 1; i < 22; i++) {
            due.is("scope", x.scope(NONE), i);
        }
        due.is("effect", Due.effect(x, "a"), 22);
        due.is("memo", Due.memo(x, "a+~a", 22), 23);
        due.is("cells", x.status(0), 24);
        due.is("read", x.read(23), 10);
        due.is("readers", x.cellOf(0, 7), 0b11 << 22);
        due.is("owns", x.cellOf(22, 8), 1 << 23);
        due.is("news", x.news(0, 6), 0b11 << 22);
        due.is("aim", x.aim(0, 23, 20), 10);
        due.is("whatIf", x.whatIf(0, 9, 23), 18);
        due.is("reaches", x.reaches(23, 0), 1);
        due.is("show", x.show(0, 23), 1);
        due.is("says", x.says(0, 2), 1);
        due.is("reform", Due.reform(x, 23, "~x"), 1);
        due.is("itself", x.read(23), Due.RING);
        due.is("dispose", x.dispose(23), 1);
        due.is("disposed", x.disposed(0), 23);
        due.is("its number stays its own", x.source(1, NONE), -6);
    }

    private static void theFirst() {
        due.says("CELLS have numbers, 0 on");
        PulledSignals x = new PulledSignals();
        due.is("memo", Due.memo(x, "1"), 0);
        due.is("source", x.source(5, NONE), 1);
        Due.reform(x, 0, "b+1");
        due.is("plain", x.plain(0), 6);
        due.is("whatIf", x.whatIf(1, 9, 0), 10);
        due.is("plain again", x.plain(0), 6);
        due.is("aim", x.aim(1, 0, 8), 7);
        due.is("news", x.news(1, 9), 1);
        due.is("colour", x.colours(2), 1);
        due.is("read", x.read(0), 6);
        due.is("runs", x.status(6), 1);
        due.is("readers", x.cellOf(1, 7), 1);
        due.is("reads", x.reads(0, 0), 1);
        due.is("reaches", x.reaches(0, 1) * 10 + x.cellOf(0, 10), 11);
        x.write(1, 7);
        due.is("dirty", x.cellOf(0, 3), 2);
        due.is("plain", x.plain(0), 8);
        due.is("kept", x.kept(0), 6);
        x.show(0, 0);
        due.is("holds", x.holds(0), 10);
        due.is("says", x.says(0, 3), 1);
        due.is("dispose", x.dispose(0), 1);
        due.is("disposed", x.disposed(0), 0);
        due.is("gone", x.status(1), 1);
    }

    private static void theFirstAsAnEffect() {
        due.says("CELLS have numbers, 0 on");
        PulledSignals x = new PulledSignals();
        due.is("effect", Due.effect(x, "7"), 0);
        due.is("log", x.log(0), 0);
        due.is("logged", x.logged(0), 7);
        due.is("owned", x.source(5, 0), 1);
        due.is("owns", x.cellOf(0, 8), 2);
        x.begin();
        due.is("reform", Due.reform(x, 0, "b"), 1);
        due.is("queued", x.queued(0), 0);
        due.is("in the queue", x.cellOf(0, 9), 1);
        x.row(0, 2, 2);
        x.set(0, 1, 7);
        due.is("judge", x.judge(0, 1), NONE);
        x.end();
        due.is("its own went first", x.logged(1), Due.UNREADABLE);
        due.is("disposed", x.disposed(0), 1);
    }

    // ---- promises 16 to 21

    private static void readingEachKind() {
        due.says("20: OUTCOME of a CELL, a MEMO REFRESHED first (an EFFECT as it is)");
        PulledSignals x = Due.withSources(5);
        Due.memo(x, "a+1");
        Due.effect(x, "b+1");
        x.begin();
        x.write(0, 9);
        due.is("source", x.read(0), 9);
        due.is("effect", x.read(2), 7);
        due.text("nothing is refreshed", Due.colours(x), ".!?");
        due.is("memo", x.read(1), 10);
        due.text("the memo is", Due.colours(x), "..!");
        due.is("effect", x.read(2), 7);
        due.is("in the queue", x.status(3), 1);
        x.end();
        due.is("effect", x.read(2), 11);
        due.is("again", x.read(1), 10);
        due.is("runs", x.cellOf(1, 5), 2);
    }

    private static void readingAheadOfTheFlush() {
        due.says("20: behind that THE QUEUE is FLUSHED (the answer is what it was ahead of that)");
        int turned = 0;
        for (int c = 0; c < 4; c++) {
            for (int more = 0; more < 3; more++) {
                PulledSignals x = turningQueue(more);
                PulledSignals y = turningQueue(more);
                y.begin();
                long within = y.read(c);
                due.is("not flushed in a batch", y.status(4), 101 + 100 * more);
                due.is("read of " + c, x.read(c), within);
                due.is("flushed", x.status(4), 201 + 100 * more);
                turned += x.kept(c) == within ? 0 : 1;
                y.end();
                due.is("the same then", x.kept(c), y.kept(c));
                due.is("the same then", x.status(6), y.status(6));
            }
        }
        due.is("a flush changes what was answered", turned > 0 ? 1 : 0, 1);
    }

    /** Two effects over two memos that turn for ever: each call that flushes leaves one in the queue. */
    private static PulledSignals turningQueue(int more) {
        PulledSignals x = new PulledSignals();
        Due.memo(x, "1");
        Due.memo(x, "a");
        x.read(1);
        Due.reform(x, 0, "1-b");
        x.read(0);
        Due.effect(x, "a*10+b");
        Due.effect(x, "a*10+b*3+1");
        for (int i = 0; i < more; i++) {
            x.read(2);
        }
        return x;
    }

    private static void keeping() {
        due.says("21: OUTCOME as it is, nothing REFRESHED (of what is GONE, too)");
        PulledSignals x = Due.withSources(5);
        Due.memo(x, "a+1");
        Due.effect(x, "b+1");
        x.begin();
        x.write(0, 9);
        due.is("source", x.kept(0), 9);
        due.is("memo", x.kept(1), 6);
        due.is("effect", x.kept(2), 7);
        due.text("nothing is refreshed", Due.colours(x), ".!?");
        for (int c = 0; c < 3; c++) {
            x.dispose(c);
        }
        due.is("source that is gone", x.kept(0), 9);
        due.is("memo that is gone", x.kept(1), 6);
        due.is("effect that is gone", x.kept(2), 7);
        due.is("a fail", kept("1/0"), Due.ZERO);
        due.is("the least", kept("-999*999*999*3"), -999 * 999 * 999 * 3);
    }

    private static long kept(String text) {
        PulledSignals x = new PulledSignals();
        return x.kept(Due.effect(x, text));
    }

    private static void disposingCounts() {
        due.says("19: how many CELLS went (with those that FLUSH disposed of, if there was one)");
        PulledSignals x = Due.withSources(5, 6);
        Due.effect(x, "a");
        x.source(7, 2);
        x.source(8, 2);
        x.begin();
        due.is("in a batch", x.dispose(0), 1);
        x.end();
        due.is("by the flush behind it", x.status(1), 3);
        Due.reform(x, 2, "b");
        x.scope(2);
        x.source(7, 5);
        due.is("with those of the flush", x.dispose(1), 3);
        due.text("the disposed", Due.disposed(x), "aedbgf");
        due.is("counted", x.status(5), 6);
        due.is("gone", x.status(1), 6);
        due.is("cells", x.status(0), 7);
        due.is("the effect", x.dispose(2), 1);
    }

    // ---- promises 22 to 24

    private static void cellsOf() {
        due.says("22: of a CELL, what 0 to 10");
        PulledSignals x = oneOfEachKind();
        int[][] want = {
            {5, NONE, 0, 0, 0, 0, 0, 0, 0b1110, 0, 0},
            {1, 0, 0, 0, 0, 0, 0, 0b1100, 0, 0, 0},
            {3, 0, 0, 0, 1, 1, 1, 0b1000, 0, 0, 1},
            {4, 0, 0, 0, 1, 1, 2, 0, 0b110000, 0, 2}};
        dueCells(x, want);
        x.begin();
        x.write(1, 4);
        x.dispose(2);
        want = new int[][] {
            {5, NONE, 0, 0, 0, 0, 0, 0, 0b1010, 0, 0},
            {1, 0, 0, 0, 1, 0, 0, 0b1000, 0, 0, 0},
            {3, 0, 1, 0, 1, 1, 0, 0b1000, 0, 0, 0},
            {4, 0, 0, 2, 1, 1, 2, 0, 0b110000, 1, 2}};
        dueCells(x, want);
        x.end();
        want = new int[][] {
            {5, NONE, 0, 0, 0, 0, 0, 0, 0b1010, 0, 0},
            {1, 0, 0, 0, 1, 0, 0, 0, 0, 0, 0},
            {3, 0, 1, 0, 1, 1, 0, 0, 0, 0, 0},
            {4, 0, 0, 0, 2, 2, 0, 0, 0, 0, 0}};
        dueCells(x, want);
        due.is("unreadable", x.kept(3), Due.UNREADABLE);
    }

    private static void dueCells(PulledSignals x, int[][] want) {
        for (int c = 0; c < want.length; c++) {
            for (int what = 0; what < want[c].length; what++) {
                due.is("cellOf " + c + ", " + what, x.cellOf(c, what), want[c][what]);
            }
        }
    }

    private static void readsOf() {
        due.says("23: The i-th of its READS");
        PulledSignals x = new PulledSignals();
        StringBuilder text = new StringBuilder();
        for (int c = 0; c < 23; c++) {
            x.source(c, NONE);
            text.insert(0, (char) ('a' + c)).insert(1, c == 0 ? "" : "+");
        }
        Due.memo(x, text.toString());
        due.is("outcome", x.read(23), 22 * 23 / 2);
        due.is("how many", x.cellOf(23, 6), 23);
        for (int i = 0; i < 23; i++) {
            due.is("read " + i, x.reads(23, i), 22 - i);
            due.is("its readers", x.cellOf(i, 7), 1 << 23);
        }
        due.is("no more", x.reads(23, 23), -2);
        due.is("reaches", x.cellOf(23, 10), 23);
    }

    // ---- promises 25 to 31

    private static void plainly() {
        due.says("25: as if nothing were kept: of a COMPUTED its FORMULA worked out with PLAIN OUTCOMES of what it reads");
        PulledSignals x = Due.withSources(5);
        x.begin();
        Due.memo(x, "a+1");
        Due.memo(x, "~b*2");
        Due.effect(x, "c+b");
        due.is("source", x.plain(0), 5);
        due.is("memo that hasn't run", x.plain(1), 6);
        due.is("untracked", x.plain(2), 12);
        due.is("effect that hasn't run", x.plain(3), 18);
        x.end();
        x.begin();
        x.write(0, 6);
        due.is("memo that is dirty", x.plain(1), 7);
        due.is("what isn't marked", x.plain(2), 14);
        due.is("but kept", x.kept(2), 12);
        x.source(9, 3);
        Due.reform(x, 3, "e");
        due.is("an effect's own isn't disposed of", x.plain(3), 9);
        due.is("nor gone", x.cellOf(4, 2), 0);
        x.end();
        due.is("in truth it is", x.kept(3), Due.UNREADABLE);
        due.is("and plainly then", x.plain(3), Due.UNREADABLE);
    }

    private static PulledSignals pending() {
        PulledSignals x = Due.withSources(5, 6);
        Due.memo(x, "a+1");
        Due.memo(x, "c*b");
        Due.effect(x, "d");
        x.source(7, 4);
        x.begin();
        x.write(0, 8);
        Due.memo(x, "d+c");
        return x;
    }

    private static void plainlyChangesNothing() {
        due.says("WHAT COMES OF IT (nothing is changed, no RUN counted)");
        String ahead = Seen.of(pending());
        PulledSignals x = pending();
        for (int c = 0; c < 7; c++) {
            x.plain(c);
            x.whatIf(0, 3, c);
            x.aim(1, c, 3);
            x.reaches(c, 0);
        }
        x.news(0, 3);
        x.colours(0);
        x.signs(1, 2, 3);
        due.text("all that can be seen", Seen.of(x), ahead);
        due.is("refused", x.status(12), 0);
    }

    private static void plainlyOfGone() {
        due.says("PLAIN OUTCOMES may be asked of what is GONE, with another number of a SOURCE that is GONE, too");
        PulledSignals x = Due.withSources(5, 6);
        Due.memo(x, "a+b");
        Due.effect(x, "c+b");
        Due.memo(x, "1");
        Due.reform(x, 4, "e");
        x.dispose(3);
        x.dispose(2);
        x.dispose(0);
        x.dispose(4);
        due.is("source", x.plain(0), 5);
        due.is("its reader", x.plain(2), Due.UNREADABLE);
        due.is("whatIf itself", x.whatIf(0, 9, 0), 9);
        due.is("whatIf its reader", x.whatIf(0, 9, 2), Due.UNREADABLE);
        due.is("aim at itself", x.aim(0, 0, 7), 7);
        due.is("aim at its reader", x.aim(0, 2, 7), 100);
        due.is("news", x.news(0, 9), 0);
        due.is("of itself, gone", x.plain(4), Due.UNREADABLE);
        Due.memo(x, "b*2");
        x.dispose(5);
        due.is("memo", x.plain(5), 12);
        due.is("whatIf a memo that is gone", x.whatIf(1, 7, 5), 14);
        due.is("aim at a memo that is gone", x.aim(1, 5, 20), 10);
        due.is("no news of what is gone", x.news(1, 7), 0);
        Due.effect(x, "b*3");
        x.dispose(6);
        due.is("effect", x.plain(6), 18);
        due.is("no news of what is gone", x.news(1, 7), 0);
    }

    private static void plainRings() {
        due.says("a CELL that is being worked out: RING; each one is worked out once");
        PulledSignals x = Due.withSources(0);
        Due.memo(x, "1");
        Due.memo(x, "b+1");
        Due.memo(x, "c+1");
        Due.reform(x, 1, "[a?d:5]");
        due.is("no ring", x.plain(3), 7);
        due.is("if", x.whatIf(0, 1, 3), Due.RING);
        due.is("if", x.whatIf(0, 1, 1), Due.RING);
        due.is("news", x.news(0, 1), 0b1110);
        due.is("aim", x.aim(0, 2, 0), 0);
        x.write(0, 1);
        due.is("ring", x.plain(2), Due.RING);
        due.is("news", x.news(0, 0), 0b1110);
        due.is("no news", x.news(0, 2), 0);
        PulledSignals y = new PulledSignals();
        y.source(1, NONE);
        for (int i = 1; i < 24; i++) {
            char c = (char) ('a' + i - 1);
            Due.memo(y, c + "+" + c + "+" + c);
        }
        int thrice = 1;
        for (int i = 1; i < 24; i++) {
            thrice *= 3;
        }
        due.is("23 deep, each asked thrice", y.plain(23), thrice);
    }

    private static void whatIfs() {
        due.says("26: PLAIN OUTCOME of a CELL, if a SOURCE had v");
        PulledSignals x = Due.withSources(5, 6);
        Due.memo(x, "a*b");
        Due.effect(x, "c-~a");
        x.write(0, 7);
        for (int v : new int[] {0, 1, -1, 7, MIN, MAX}) {
            due.is("itself", x.whatIf(0, v, 0), v);
            due.is("another", x.whatIf(0, v, 1), 6);
            due.is("memo", x.whatIf(0, v, 2), v * 6);
            due.is("effect", x.whatIf(0, v, 3), v * 6 - v);
            due.is("by the other", x.whatIf(1, v, 3), 7 * v - 7);
        }
        due.is("it has what it had", x.read(0), 7);
        due.is("version", x.cellOf(0, 4), 1);
        due.is("runs", x.status(6), 4);
    }

    private static void aims() {
        due.says("27: The least v (-20 to 20), if a SOURCE had which, PLAIN OUTCOME would be a number, w at least");
        PulledSignals x = Due.withSources(50, 3);
        Due.memo(x, "-a");
        Due.memo(x, "a*a");
        Due.effect(x, "[a<6?1/0:a]");
        Due.memo(x, "100/a");
        int[][] asked = {
            {0, 0, MIN, -20}, {0, 0, -21, -20}, {0, 0, -20, -20}, {0, 0, -19, -19}, {0, 0, 0, 0}, {0, 0, 19, 19},
            {0, 0, 20, 20}, {0, 0, 21, 100}, {0, 0, MAX, 100},
            {0, 2, 20, -20}, {0, 2, 21, 100}, {0, 2, -20, -20}, {0, 2, MIN, -20},
            {0, 3, 400, -20}, {0, 3, 401, 100}, {0, 3, 0, -20},
            {0, 4, 6, 6}, {0, 4, MIN, 6}, {0, 4, 7, 7}, {0, 4, 20, 20}, {0, 4, 21, 100},
            {0, 5, 100, 1}, {0, 5, 51, 1}, {0, 5, 0, 1}, {0, 5, -5, -20}, {0, 5, 101, 100},
            {0, 1, 3, -20}, {0, 1, 4, 100}, {1, 0, 50, -20}, {1, 0, 51, 100}, {1, 1, 20, 20}, {1, 2, -50, -20}};
        for (int[] a : asked) {
            due.is("aim " + a[0] + ", " + a[1] + ", " + a[2], x.aim(a[0], a[1], a[2]), a[3]);
        }
        Due.memo(x, "1/0");
        due.is("a fail is no number", x.aim(0, 6, MIN), 100);
    }

    private static void news() {
        due.says("28: MEMOS and EFFECTS (bits) that aren't GONE, whose PLAIN OUTCOME would be another, if a SOURCE had v");
        PulledSignals x = Due.withSources(5, 6);
        Due.memo(x, "a%2");
        Due.effect(x, "~a");
        Due.memo(x, "b");
        x.scope(NONE);
        Due.memo(x, "[a=0?1/0:f]");
        due.is("what it has", x.news(0, 5), 0);
        due.is("odd, too", x.news(0, 7), 1 << 3);
        due.is("even", x.news(0, 6), 1 << 2 | 1 << 3);
        due.is("another fail", x.news(0, 0), 1 << 2 | 1 << 3 | 1 << 6);
        due.is("of the other", x.news(1, 0), 1 << 4);
        x.begin();
        x.write(0, 6);
        due.is("against what comes of it now", x.news(0, 6), 0);
        due.is("against what comes of it now", x.news(0, 5), 1 << 2 | 1 << 3);
        x.dispose(3);
        due.is("one that is gone", x.news(0, 5), 1 << 2);
        due.is("the greatest", x.news(0, MAX), 1 << 2);
        due.is("the least", x.news(0, MIN), 0);
    }

    private static void reaching() {
        due.says("29: Whether y is one of the READS of x, or of theirs, and so on; One in a ring reaches itself");
        PulledSignals x = Due.withSources(5);
        for (int i = 1; i < 24; i++) {
            Due.memo(x, String.valueOf((char) ('a' + i - 1)));
        }
        due.is("not ahead of a run", x.reaches(23, 22), 0);
        x.read(23);
        due.is("the first", x.reaches(23, 0), 1);
        due.is("all", x.cellOf(23, 10), 23);
        due.is("the last", x.reaches(23, 22), 1);
        due.is("not itself", x.reaches(23, 23), 0);
        due.is("not back", x.reaches(22, 23), 0);
        Due.reform(x, 1, "x");
        x.read(1);
        for (int c = 1; c < 24; c++) {
            due.is("in a ring", x.reaches(c, c), 1);
        }
        due.is("no more", x.reaches(23, 0), 0);
        due.is("all of the ring", x.cellOf(5, 10), 23);
        x.begin();
        x.dispose(9);
        due.is("what is gone reaches nothing", x.reaches(9, 8), 0);
        due.is("but is reached till its reader runs", x.reaches(10, 9), 1);
        x.read(10);
        due.is("no more then", x.reaches(10, 9), 0);
    }

    private static void colouring() {
        due.says("30: How many CELLS that aren't GONE have a COLOUR (of SOURCES and SCOPES always CLEAN)");
        PulledSignals x = Due.withSources(5, 6);
        x.scope(NONE);
        Due.memo(x, "a");
        Due.memo(x, "d");
        Due.effect(x, "e");
        Due.effect(x, "b");
        x.begin();
        x.write(0, 6);
        due.is("clean", x.colours(0), 4);
        due.is("check", x.colours(1), 2);
        due.is("dirty", x.colours(2), 1);
        x.dispose(1);
        x.dispose(2);
        due.is("clean", x.colours(0), 1);
        due.is("check", x.colours(1), 2);
        due.is("dirty", x.colours(2), 2);
        x.dispose(5);
        x.dispose(3);
        due.is("clean", x.colours(0), 1);
        due.is("check", x.colours(1), 0);
        due.is("dirty", x.colours(2), 2);
    }

    private static void signs() {
        due.says("31: SIGNS (bits: 0 +, 1 -, 2 *, 3 /, 4 %, 5 <, 6 =, 7 >) with which x SIGN y is w (by 0 it is none)");
        PulledSignals none = new PulledSignals();
        int[] numbers = {MIN, -7, -2, -1, 0, 1, 2, 3, 7, MAX};
        for (int a : numbers) {
            PulledSignals x = new PulledSignals();
            for (int b : numbers) {
                for (int w : new int[] {MIN, -3, -1, 0, 1, 2, 4, 5, MAX}) {
                    int want = (a + b == w ? 1 : 0) + (a - b == w ? 2 : 0) + (a * b == w ? 4 : 0)
                            + (b != 0 && a / b == w ? 8 : 0) + (b != 0 && a % b == w ? 16 : 0)
                            + ((a < b ? 1 : 0) == w ? 32 : 0) + ((a == b ? 1 : 0) == w ? 64 : 0)
                            + ((a > b ? 1 : 0) == w ? 128 : 0);
                    due.is("signs " + a + ", " + b + ", " + w, x.signs(a, b, w), want);
                }
            }
        }
        due.is("by 0, w 0", none.signs(0, 0, 0), 1 | 2 | 4 | 32 | 128);
        due.is("refused", none.status(12), 0);
    }

    // ---- promises 32 to 36

    private static void theLists() {
        due.says("32 to 35: The i-th in THE LOG, in THE DISPOSED, in THE QUEUE");
        PulledSignals x = Due.withSources(5);
        due.is("empty", x.status(3) + x.status(4) + x.status(5), 0);
        Due.effect(x, "a");
        due.is("log 0", x.log(0), 1);
        due.is("logged 0", x.logged(0), 5);
        due.is("log 1", x.log(1), -2);
        due.is("logged 1", x.logged(1), -9_000_000_002L);
        x.write(0, MIN);
        due.is("the least", x.logged(1), MIN);
        x.write(0, MAX);
        due.is("the greatest", x.logged(2), MAX);
        x.begin();
        for (int i = 2; i < 24; i++) {
            Due.effect(x, "a");
        }
        x.write(0, 3);
        for (int i = 0; i < 22; i++) {
            due.is("queued " + i, x.queued(i), i + 2);
        }
        due.is("the last", x.queued(22), 1);
        due.is("behind it", x.queued(23), -2);
        due.is("how many", x.status(3), 23);
        for (int i = 23; i > 1; i--) {
            x.dispose(i);
            due.is("disposed", x.disposed(23 - i), i);
            due.is("behind it", x.disposed(24 - i), -2);
            due.is("queue", x.status(3), i - 1);
        }
        x.end();
        due.is("log 3", x.log(3), 1);
        due.is("log 4", x.log(4), -2);
    }

    private static PulledSignals logged() {
        PulledSignals x = Due.withSources(3);
        Due.effect(x, "a");
        Due.effect(x, "-a");
        Due.effect(x, "1/(a-4)");
        x.write(0, 4);
        return x;
    }

    private static void tell(PulledSignals x, int s, int sort, long... told) {
        x.row(s, sort, told.length);
        for (int i = 0; i < told.length; i++) {
            x.set(s, i, told[i]);
        }
    }

    private static void judging() {
        due.says("36: the first at which THE LOG has another one, another OUTCOME (also a FAIL), or none kept; NONE");
        PulledSignals x = logged();
        long[] log = {1, 3, 2, -3, 3, -1, 1, 4, 2, -4, 3, Due.ZERO};
        tell(x, 0, 3, log);
        for (int n = 0; n <= 5; n++) {
            due.is("as it is, " + n, x.judge(0, n), NONE);
        }
        due.is("a fail is told no number", x.judge(0, 6), 5);
        tell(x, 0, 3, 1, 3, 2, -3, 3, -1, 1, 4, 2, -4, 3, 0, 3, 0);
        due.is("a fail", x.judge(0, 6), 5);
        due.is("a fail ahead of none kept", x.judge(0, 7), 5);
        for (int i = 0; i < 5; i++) {
            x.set(0, 2 * i, log[2 * i] + 1);
            due.is("another effect", x.judge(0, 5), i);
            due.is("not among the first", x.judge(0, i), NONE);
            x.set(0, 2 * i, log[2 * i] + (1L << 32));
            due.is("no effect", x.judge(0, 5), i);
            x.set(0, 2 * i, log[2 * i]);
            x.set(0, 2 * i + 1, log[2 * i + 1] - 1);
            due.is("another outcome", x.judge(0, 5), i);
            x.set(0, 2 * i + 1, log[2 * i + 1] + (1L << 32));
            due.is("no outcome", x.judge(0, 5), i);
            x.set(0, 2 * i + 1, log[2 * i + 1]);
            due.is("as it is", x.judge(0, 5), NONE);
        }
        due.is("refused", x.status(12) + x.status(13) + x.status(14), 0);
    }

    private static void judgingEachSort() {
        due.says("36: A told LOG by the first n twos (0 to 20) of the ROW in SHELF s");
        for (int sort = 0; sort < 4; sort++) {
            PulledSignals x = logged();
            tell(x, 7, sort, 1, 3, 2, -3, 3);
            due.is("of sort " + sort, x.judge(7, 2), NONE);
            due.is("no third two", x.judge(7, 3), -2);
            tell(x, 7, sort, 1, 3, 2, -4);
            due.is("of sort " + sort, x.judge(7, 2), 1);
        }
        PulledSignals y = Due.withSources(1);
        tell(y, 0, 4, 0, 0);
        due.is("none kept", y.judge(0, 1), 0);
        due.is("none told", y.judge(0, 0), NONE);
        Due.effect(y, "a");
        tell(y, 0, 4, 1, 1);
        due.is("booleans are 1 and 0", y.judge(0, 1), NONE);
        tell(y, 0, 3, 1, 1, 1, 1);
        due.is("none kept behind it", y.judge(0, 2), 1);
    }

    private static void judgingAll() {
        due.says("36: n twos (0 to 20); none kept");
        PulledSignals x = Due.withSources(0);
        Due.effect(x, "a");
        for (int i = 1; i < 20; i++) {
            x.write(0, i);
        }
        x.row(0, 2, 40);
        for (int i = 0; i < 20; i++) {
            x.set(0, 2 * i, 1);
            x.set(0, 2 * i + 1, i);
        }
        due.is("20 twos", x.judge(0, 20), NONE);
        x.set(0, 39, 99);
        due.is("the last one", x.judge(0, 20), 19);
        due.is("not among 19", x.judge(0, 19), NONE);
        x.set(0, 0, 0);
        due.is("the first one of two", x.judge(0, 20), 0);
        due.is("the log is as it was", x.status(4), 20);
    }

    // ---- promises 37 to 41

    private static int drawn(int[] seed, int n) {
        seed[0] = (int) (seed[0] * 1_103_515_245L + 12_345L);
        return (int) ((seed[0] & 0xFFFF_FFFFL) / 65_536 % n);
    }

    private static void draws() {
        due.says("A DRAW below n: SEED becomes SEED times 1103515245, and 12345; its upper 16 bits, no sign, modulo n");
        int least = 99;
        int greatest = -99;
        int same = 0;
        int signed = 0;
        for (int first = -300; first < 300; first += 60) {
            PulledSignals x = Due.withSources(0);
            int has = 0;
            for (int v = first; v < first + 60; v++) {
                int[] seed = {v * v * 7_919 + v * 654_321};
                x.seed(seed[0]);
                drawn(seed, 1);
                int want = drawn(seed, 21) - 10;
                signed += seed[0] < 0 ? 1 : 0;
                due.is("wrote another", x.days(1), want == has ? 0 : 1);
                due.is("written", x.kept(0), want);
                due.is("seed", x.status(8), seed[0]);
                same += want == has ? 1 : 0;
                has = want;
                least = Math.min(least, want);
                greatest = Math.max(greatest, want);
            }
        }
        due.is("the least drawn", least, -10);
        due.is("the greatest drawn", greatest, 10);
        due.is("the same was drawn", same > 0 ? 1 : 0, 1);
        due.is("of seeds below 0, too", signed > 0 && signed < 600 ? 1 : 0, 1);
    }

    private static void drawsOfCells() {
        due.says("the CELL of a DRAW below how many there are: if it is a SOURCE that isn't GONE, it is WRITTEN");
        for (int cells = 2; cells <= 24; cells += 11) {
            PulledSignals x = Due.withSources(0, 0);
            for (int c = 2; c < cells; c++) {
                x.scope(NONE);
            }
            if (cells > 2) {
                Due.reform(x, 2, "1");
            }
            int[] seed = {12_345};
            int[] has = {0, 0};
            x.seed(seed[0]);
            for (int i = 0; i < 60; i++) {
                int c = drawn(seed, cells);
                int wrote = 0;
                if (c < 2) {
                    int v = drawn(seed, 21) - 10;
                    wrote = v == has[c] ? 0 : 1;
                    has[c] = v;
                }
                due.is("day " + i, x.days(1), wrote);
                due.is("seed", x.status(8), seed[0]);
            }
            due.is("the first", x.kept(0), has[0]);
            due.is("the second", x.kept(1), has[1]);
        }
    }

    private static void days() {
        due.says("37: DAYS by draws, n (1 to 60): how many of them WROTE another number");
        for (int n : new int[] {1, 2, 59, 60}) {
            PulledSignals x = Due.withSources(0, 0);
            Due.memo(x, "1/0");
            Due.effect(x, "a*100+b");
            x.source(5, NONE);
            x.dispose(4);
            int[] seed = {1};
            int[] has = {0, 0};
            int wrote = 0;
            for (int i = 0; i < n; i++) {
                int c = drawn(seed, 5);
                if (c < 2) {
                    int v = drawn(seed, 21) - 10;
                    wrote += v == has[c] ? 0 : 1;
                    has[c] = v;
                }
            }
            due.is(n + " days", x.days(n), wrote);
            due.is("seed", x.status(8), seed[0]);
            due.is("each flushed", x.status(4), wrote + 1);
            due.is("gone stays as it was", x.kept(4), 5);
            due.is("versions", x.cellOf(0, 4) + x.cellOf(1, 4), wrote);
            x.begin();
            x.days(60);
            due.is("in a batch", x.status(4), wrote + 1);
        }
        PulledSignals y = Due.withSources(5);
        y.dispose(0);
        due.is("all gone", y.days(60), 0);
        int[] seed = {1};
        for (int i = 0; i < 60; i++) {
            drawn(seed, 1);
        }
        due.is("one draw a day", y.status(8), seed[0]);
    }

    private static void seeds() {
        due.says("38: SEED becomes v: the one ahead");
        PulledSignals x = new PulledSignals();
        int ahead = 1;
        for (int v : new int[] {0, -1, MIN, MAX, 1, 1}) {
            due.is("seed " + v, x.seed(v), ahead);
            due.is("status", x.status(8), v);
            ahead = v;
        }
        PulledSignals y = Due.withSources(0);
        y.seed(0);
        y.days(1);
        int[] seed = {0};
        drawn(seed, 1);
        drawn(seed, 21);
        due.is("drawn from 0", y.seed(0), seed[0]);
    }

    private static PulledSignals kept() {
        PulledSignals x = Due.withSources(5, 6);
        Due.memo(x, "a+b");
        Due.memo(x, "c");
        Due.effect(x, "d");
        Due.effect(x, "b");
        x.source(7, 4);
        x.dispose(6);
        x.scope(NONE);
        x.begin();
        x.write(0, 8);
        x.seed(99);
        x.row(1, 2, 3);
        x.set(1, 2, 9);
        x.show(2, 7);
        Due.feed(x, "a*");
        return x;
    }

    private static void images() {
        due.says("39, 40: All is kept, but THE TAPE, SHELVES and REFUSALS; All is again as it was kept");
        String ahead = Seen.of(kept());
        PulledSignals x = kept();
        due.is("image", x.image(), 1);
        due.text("nothing is changed by it", Seen.of(x), ahead);
        PulledSignals y = kept();
        y.image();
        y.wipe();
        y.end();
        y.write(0, 1);
        y.write(1, 2);
        Due.reform(y, 2, "b*a");
        Due.reform(y, 5, "a");
        y.read(3);
        y.source(1, 7);
        Due.effect(y, "a");
        y.dispose(7);
        y.dispose(1);
        y.days(7);
        y.begin();
        y.begin();
        y.show(3, 9);
        y.show(4, 8);
        y.write(7, 7);
        y.end();
        Due.feed(y, "a*");
        due.is("back", y.back(), 1);
        due.text("all is again", Seen.of(y), ahead);
        due.is("refusals stay", y.status(12), 1);
    }

    private static void imagesOfMarks() {
        due.says("40: All is again as it was kept");
        PulledSignals x = Due.withSources(5, 6);
        Due.memo(x, "a");
        Due.effect(x, "c");
        x.image();
        Due.reform(x, 2, "b");
        due.is("readers", x.cellOf(0, 7) * 100 + x.cellOf(1, 7), 4);
        x.back();
        due.is("readers", x.cellOf(0, 7) * 100 + x.cellOf(1, 7), 400);
        due.text("reads", Due.reads(x, 2), "a");
        due.text("formula", Seen.formula(x, 2), "a");
        x.begin();
        x.write(1, 7);
        due.text("what doesn't hang on it", Due.colours(x), "....");
        x.write(0, 8);
        due.text("what hangs on it", Due.colours(x), "..!?");
        x.image();
        x.end();
        due.is("logged", x.logged(1), 8);
        x.back();
        due.is("the batch is begun again", x.status(2), 1);
        due.text("queue", Due.queue(x), "d");
        due.text("marks", Due.colours(x), "..!?");
        due.is("runs", x.status(6), 2);
        x.end();
        due.is("logged", x.logged(1), 8);
        due.is("all that are counted", x.status(4), 2);
    }

    private static void numbersUsedAgain() {
        due.says("40: SHELVES with CELLS hold those of the same numbers, or NOTHING");
        PulledSignals x = Due.withSources(5);
        x.image();
        x.scope(NONE);
        Due.effect(x, "a", 1);
        Due.memo(x, "a", 2);
        x.read(3);
        x.begin();
        x.write(0, 6);
        x.dispose(1);
        for (int c = 0; c < 4; c++) {
            x.show(c, c);
        }
        x.row(7, 3, 1);
        due.is("back", x.back(), 1);
        due.is("the one that there is", x.holds(0), 10);
        due.is("no more", x.holds(1), NONE);
        due.is("no more", x.holds(2), NONE);
        due.is("no more", x.holds(3), NONE);
        due.is("a row", x.holds(7), 3);
        due.is("shelves", x.status(9), 2);
        due.is("cells", x.status(0), 1);
        due.is("gone", x.status(1), 0);
        due.is("no batch", x.status(2), 0);
        due.is("readers", x.cellOf(0, 7), 0);
        due.is("source", x.kept(0), 5);
        due.is("memo", Due.memo(x, "a", NONE), 1);
        dueNew(x, 1, 3, NONE, 2, 0);
        due.is("source", x.source(4, NONE), 2);
        dueNew(x, 2, 1, NONE, 0, 4);
        due.is("scope", x.scope(NONE), 3);
        dueNew(x, 3, 5, NONE, 0, 0);
        due.is("read", x.read(1), 5);
        due.is("version", x.cellOf(1, 4), 1);
        due.is("a shelf holds nothing still", x.holds(1), NONE);
        x.dispose(2);
        x.image();
        x.show(4, 2);
        x.show(5, 1);
        x.dispose(1);
        x.back();
        due.is("one that is gone now, as it was", x.holds(4), 12);
        due.is("one that isn't gone again", x.holds(5), 11);
        due.is("gone", x.cellOf(2, 2) * 10 + x.cellOf(1, 2), 10);
    }

    private static void cellsThatCameAnew() {
        due.says("40: All is again as it was kept; a new COMPUTED is DIRTY, its OUTCOME 0, no READS");
        PulledSignals x = Due.withSources(5);
        x.image();
        Due.memo(x, "a");
        x.read(1);
        Due.effect(x, "a+b");
        x.write(0, 6);
        x.read(1);
        x.show(0, 2);
        x.show(1, 0);
        x.back();
        due.is("no such cell", x.holds(0), NONE);
        due.is("that one is there", x.holds(1), 10);
        x.begin();
        due.is("effect", Due.effect(x, "a"), 1);
        due.is("colour", x.cellOf(1, 3), 2);
        due.is("version, runs, reads", x.cellOf(1, 4) + x.cellOf(1, 5) + x.cellOf(1, 6), 0);
        due.is("outcome", x.kept(1), 0);
        due.is("readers", x.cellOf(0, 7), 0);
        due.is("memo", Due.memo(x, "a"), 2);
        dueNew(x, 2, 3, NONE, 2, 0);
        x.write(0, 7);
        due.text("queue", Due.queue(x), "b");
        x.end();
        due.is("logged", x.logged(0), 7);
        due.is("log", x.status(4), 1);
    }

    private static void imagesOfLongLogs() {
        due.says("40: All is again as it was kept; more are counted");
        PulledSignals x = Due.withSources(0);
        Due.effect(x, "a");
        for (int i = 1; i < 62; i++) {
            x.write(0, i);
        }
        x.source(1, NONE);
        x.dispose(2);
        x.image();
        x.write(0, 0);
        x.dispose(0);
        due.is("counted", x.status(4) * 10 + x.status(5), 642);
        x.back();
        due.is("counted", x.status(4) * 10 + x.status(5), 621);
        due.is("the 60th", x.logged(59), 59);
        due.is("disposed", x.disposed(0), 2);
        due.is("no more", x.disposed(1), -2);
        x.write(0, 0);
        due.is("one more", x.status(4), 63);
    }

    private static void backAndBack() {
        due.says("39, 40: kept till the next image");
        PulledSignals x = Due.withSources(5);
        Due.effect(x, "a");
        x.image();
        for (int i = 0; i < 3; i++) {
            x.write(0, 10 + i);
            due.is("logged", x.logged(1), 10 + i);
            x.source(i, NONE);
            due.is("back", x.back(), 1);
            due.is("source", x.kept(0), 5);
            due.is("cells", x.status(0), 2);
            due.is("log", x.status(4), 1);
            due.is("version", x.cellOf(0, 4), 0);
        }
        x.write(0, 20);
        x.image();
        x.write(0, 21);
        x.back();
        due.is("the next image", x.kept(0), 20);
        due.is("logged", x.logged(1), 20);
        due.is("log", x.status(4), 2);
        x.back();
        due.is("twice is as once", x.kept(0), 20);
        x.seed(5);
        x.begin();
        x.back();
        due.is("seed", x.status(8), 1);
        due.is("batches", x.status(2), 0);
    }

    private static void statuses() {
        due.says("41: CELLS, of these GONE, BATCHES begun, in THE QUEUE, counted in THE LOG, in THE DISPOSED, all RUNS");
        PulledSignals x = Due.withSources(5, 6);
        Due.memo(x, "a");
        Due.effect(x, "c");
        Due.effect(x, "b");
        x.write(0, 7);
        x.begin();
        x.begin();
        x.write(0, 8);
        x.write(1, 9);
        x.dispose(2);
        x.dispose(4);
        int[] want = {5, 2, 2, 1, 3, 2, 5, 0, 1, 0, NONE, NONE, 0, 0, 0, 0, 0, NONE, NONE};
        for (int what = 0; what < want.length; what++) {
            due.is("status " + what, x.status(what), want[what]);
        }
        x.show(0, 0);
        x.row(7, 4, 40);
        Due.feed(x, "abc");
        due.is("tape", x.status(7), 3);
        due.is("shelves", x.status(9), 2);
        x.row(0, 9, 0);
        x.row(0, 9, 0);
        x.set(0, 0, 0);
        x.set(1, 0, 0);
        x.set(1, 0, 0);
        x.set(1, 0, 0);
        x.dispose(2);
        x.end();
        x.end();
        x.end();
        x.end();
        for (int i = 0; i < 252; i++) {
            x.feed('1');
        }
        int[] refused = {2, 1, 3, 3, 5};
        for (int i = 0; i < refused.length; i++) {
            due.is("refused " + (-2 - i), x.status(12 + i), refused[i]);
        }
        due.is("the end of the batch ran one more", x.status(6), 6);
        for (int what : new int[] {-1, 10, 11, 17, MIN, MAX}) {
            due.is("status " + what, x.status(what), NONE);
        }
    }
}
