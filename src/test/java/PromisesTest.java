/** Each promise of the document by its number: ordinary inputs, edges, wrong inputs. */
public final class PromisesTest {
    private static final int NONE = PulledSignals.NONE;
    private static final int BAD = -2;
    private static final int OTHER = -3;
    private static final int NOTHING = -4;
    private static final int STUCK = -5;
    private static final int FULL = -6;
    private static final long LONG_BAD = -9_000_000_002L;
    private static final long LONG_STUCK = -9_000_000_005L;
    private static final long ZERO = 4_000_000_001L;
    private static final long RING = 4_000_000_002L;
    private static final long UNREADABLE = 4_000_000_003L;
    private static final int MIN = Integer.MIN_VALUE;
    private static final int MAX = Integer.MAX_VALUE;

    private static int wrong = 0;
    private static int tested = 0;
    private static String promise = "";

    public static void main(String[] args) {
        aNewObject();
        rows();
        setting();
        copying();
        elements();
        holding();
        showing();
        saying();
        feeding();
        wiping();
        sources();
        scopes();
        memos();
        faults();
        effects();
        effectsThatOwn();
        reforming();
        writing();
        marking();
        batches();
        disposing();
        reading();
        failing();
        keeping();
        cellsOf();
        readsOf();
        spelling();
        plainOutcomes();
        whatIfs();
        aiming();
        news();
        reaching();
        colouring();
        signing();
        logs();
        theDisposed();
        queues();
        endlessQueue();
        judging();
        dayByDay();
        seeds();
        images();
        statuses();
        rings();
        workingOut();
        deepTapes();
        ringsThatMultiply();
        millionsOfRuns();
        System.out.println("PromisesTest: " + tested + " answers, " + wrong + " wrong");
        if (wrong != 0) {
            System.exit(1);
        }
    }

    private static void due(String told, long got, long want) {
        tested++;
        if (got != want) {
            wrong++;
            System.out.println("PromisesTest " + promise + ": " + told + " answered " + got + ", due is " + want);
        }
    }

    private static void feed(PulledSignals x, String text) {
        for (int i = 0; i < text.length(); i++) {
            x.feed(text.charAt(i));
        }
    }

    private static int memo(PulledSignals x, String text) {
        feed(x, text);
        return x.memo(NONE);
    }

    private static int effect(PulledSignals x, String text) {
        return effect(x, text, NONE);
    }

    private static int effect(PulledSignals x, String text, int owner) {
        feed(x, text);
        return x.effect(owner);
    }

    private static int reform(PulledSignals x, int cell, String text) {
        feed(x, text);
        return x.reform(cell);
    }

    private static void dueText(String told, String got, String want) {
        tested++;
        if (!got.equals(want)) {
            wrong++;
            System.out.println("PromisesTest " + promise + ": " + told + " is " + got + ", due is " + want);
        }
    }

    private static PulledSignals withCells(int n) {
        PulledSignals x = new PulledSignals();
        for (int i = 0; i < n; i++) {
            x.source(i, NONE);
        }
        return x;
    }

    private static void aNewObject() {
        promise = "1";
        PulledSignals x = new PulledSignals();
        due("NONE", PulledSignals.NONE, -1);
        due("cells", x.status(0), 0);
        due("tape", x.status(7), 0);
        due("seed", x.status(8), 1);
        due("shelves", x.status(9), 0);
        for (int s = 0; s < 8; s++) {
            due("holds", x.holds(s), NONE);
        }
        for (int what = 1; what <= 6; what++) {
            due("status " + what, x.status(what), 0);
        }
    }

    private static void rows() {
        promise = "2";
        PulledSignals x = new PulledSignals();
        due("row", x.row(0, 0, 0), 1);
        due("row", x.row(7, 4, 40), 1);
        due("holds", x.holds(0), 0);
        due("holds", x.holds(7), 4);
        due("shelf -1", x.row(-1, 0, 1), BAD);
        due("shelf 8", x.row(8, 0, 1), BAD);
        due("sort -1", x.row(0, -1, 1), BAD);
        due("sort 5", x.row(0, 5, 1), BAD);
        due("n -1", x.row(0, 0, -1), BAD);
        due("n 41", x.row(0, 0, 41), BAD);
        due("refused", x.status(12), 6);
        x.row(1, 3, 5);
        x.set(1, 4, 9);
        due("a new row", x.row(1, 3, 5), 1);
        due("its elements are 0", x.element(1, 4), 0);
        x.source(1, NONE);
        x.show(2, 0);
        due("in a cell's place", x.row(2, 2, 3), 1);
        due("holds", x.holds(2), 2);
    }

    private static void setting() {
        promise = "3";
        PulledSignals x = new PulledSignals();
        long v = 0x123456789ABCDEF0L;
        long[] kept = {(byte) 0xF0, (short) 0xDEF0, 0x9ABCDEF0, v, 1};
        for (int sort = 0; sort < 5; sort++) {
            x.row(sort, sort, 3);
            due("set", x.set(sort, 2, v), 1);
            due("keeps its lowest bits", x.element(sort, 2), kept[sort]);
        }
        x.set(4, 2, 0);
        due("not so", x.element(4, 2), 0);
        x.set(4, 2, 1L << 40);
        due("not 0", x.element(4, 2), 1);
        due("shelf 8", x.set(8, 0, 1), BAD);
        due("shelf -1", x.set(-1, 0, 1), BAD);
        due("nothing", x.set(5, 99, 1), NOTHING);
        x.source(0, NONE);
        x.show(6, 0);
        due("a cell", x.set(6, 0, 1), OTHER);
        due("i -1", x.set(0, -1, 1), BAD);
        due("i 3", x.set(0, 3, 1), BAD);
        due("refused", x.status(12) * 100 + x.status(13) * 10 + x.status(14), 411);
    }

    private static void copying() {
        promise = "4";
        PulledSignals x = new PulledSignals();
        x.row(0, 2, 5);
        x.row(1, 2, 3);
        for (int i = 0; i < 5; i++) {
            x.set(0, i, i + 1);
        }
        due("copy", x.copy(0, 1, 1, 0, 3), 3);
        due("element", x.element(1, 0) * 100 + x.element(1, 1) * 10 + x.element(1, 2), 234);
        due("over itself, up", x.copy(0, 0, 0, 1, 4), 4);
        due("as they were", x.element(0, 1) * 1000 + x.element(0, 2) * 100 + x.element(0, 3) * 10 + x.element(0, 4), 1234);
        due("over itself, down", x.copy(0, 0, 2, 1, 3), 3);
        due("as they were", x.element(0, 1) * 100 + x.element(0, 2) * 10 + x.element(0, 3), 234);
        due("none, at the end", x.copy(0, 1, 5, 3, 0), 0);
        due("behind the end", x.copy(0, 1, 6, 0, 0), BAD);
        due("too many", x.copy(0, 1, 3, 0, 3), BAD);
        due("too many there", x.copy(0, 1, 0, 1, 3), BAD);
        due("n -1", x.copy(0, 1, 0, 0, -1), BAD);
        due("i -1", x.copy(0, 1, -1, 0, 1), BAD);
        due("j -1", x.copy(0, 1, 0, -1, 1), BAD);
        due("n of all", x.copy(0, 1, 1, 0, MAX), BAD);
        due("shelf p", x.copy(-1, 1, 0, 0, 1), BAD);
        due("shelf q", x.copy(0, 8, 0, 0, 1), BAD);
        x.row(2, 3, 5);
        due("two sorts", x.copy(0, 2, 0, 0, 1), OTHER);
        due("nothing", x.copy(0, 5, 0, 0, 99), NOTHING);
        due("nothing", x.copy(5, 0, 0, 0, 99), NOTHING);
        x.source(0, NONE);
        x.show(6, 0);
        due("a cell ahead of nothing", x.copy(5, 6, 0, 0, 1), OTHER);
        due("a cell", x.copy(6, 0, 0, 0, 99), OTHER);
    }

    private static void elements() {
        promise = "5";
        PulledSignals x = new PulledSignals();
        x.row(0, 3, 2);
        x.set(0, 1, Long.MIN_VALUE);
        due("element", x.element(0, 1), Long.MIN_VALUE);
        due("none", x.element(0, 2), 0);
        due("none", x.element(0, -1), 0);
        due("no row", x.element(1, 0), 0);
        due("no shelf", x.element(8, 0), 0);
        due("no shelf", x.element(-1, 0), 0);
        x.source(5, NONE);
        x.show(0, 0);
        due("a cell", x.element(0, 1), 0);
        due("refused", x.status(12) + x.status(13) + x.status(14), 0);
    }

    private static void holding() {
        promise = "6";
        PulledSignals x = withCells(24);
        for (int sort = 0; sort < 5; sort++) {
            x.row(sort, sort, 0);
            due("a row", x.holds(sort), sort);
        }
        x.show(5, 23);
        due("a cell", x.holds(5), 33);
        due("nothing", x.holds(6), NONE);
        due("no shelf", x.holds(8), NONE);
        due("no shelf", x.holds(-1), NONE);
    }

    private static void showing() {
        promise = "7";
        PulledSignals x = withCells(2);
        due("show", x.show(0, 1), 1);
        due("holds", x.holds(0), 11);
        due("none", x.show(0, NONE), 1);
        due("holds", x.holds(0), NONE);
        x.dispose(0);
        due("a cell that is gone", x.show(0, 0), 1);
        due("holds", x.holds(0), 10);
        due("no cell", x.show(0, 2), BAD);
        due("no cell", x.show(0, -2), BAD);
        due("no shelf", x.show(8, 0), BAD);
        due("no shelf", x.show(-1, NONE), BAD);
        due("holds still", x.holds(0), 10);
    }

    private static void saying() {
        promise = "8";
        PulledSignals x = new PulledSignals();
        x.scope(NONE);
        x.source(1, 0);
        feed(x, "b");
        x.memo(0);
        effect(x, "c+b", 0);
        x.write(1, 2);
        x.write(1, 3);
        for (int s = 0; s < 4; s++) {
            x.show(s, s);
        }
        due("owner", x.says(1, 0), 0);
        due("no owner", x.says(0, 0), NONE);
        due("scope", x.says(0, 5), 3);
        due("version of a source", x.says(1, 1), 2);
        due("version of a memo", x.says(2, 3), 3);
        due("reads of a memo", x.says(2, 2), 1);
        due("reads of an effect", x.says(3, 2), 2);
        due("in the log", x.says(3, 4), 3);
        int[][] others = {{0, 1}, {0, 2}, {1, 2}, {1, 5}, {2, 1}, {2, 4}, {3, 3}, {3, 5}};
        for (int[] o : others) {
            due("of no such kind", x.says(o[0], o[1]), OTHER);
        }
        x.row(5, 0, 1);
        due("a row", x.says(5, 0), OTHER);
        due("nothing", x.says(6, 0), NOTHING);
        due("kind -1", x.says(0, -1), BAD);
        due("kind 6", x.says(6, 6), BAD);
        due("shelf", x.says(8, 0), BAD);
        x.dispose(1);
        due("owned that isn't gone", x.says(0, 5), 2);
    }

    private static void feeding() {
        promise = "9";
        PulledSignals x = new PulledSignals();
        due("feed", x.feed(0), 1);
        due("feed", x.feed(255), 2);
        due("256", x.feed(256), BAD);
        due("-1", x.feed(-1), BAD);
        for (int i = 3; i <= 250; i++) {
            due("feed", x.feed(65), i);
        }
        due("full", x.feed(65), FULL);
        due("bad ahead of full", x.feed(256), BAD);
        due("size", x.status(7), 250);
        due("refused", x.status(12) * 10 + x.status(16), 31);
    }

    private static void wiping() {
        promise = "10";
        PulledSignals x = new PulledSignals();
        due("empty", x.wipe(), 0);
        feed(x, "abc");
        due("wipe", x.wipe(), 3);
        due("size", x.status(7), 0);
    }

    private static void sources() {
        promise = "11";
        PulledSignals x = new PulledSignals();
        due("source", x.source(MIN, NONE), 0);
        due("read", x.read(0), MIN);
        due("version", x.cellOf(0, 4), 0);
        due("an owner that is no scope", x.source(1, 0), BAD);
        due("an owner that there isn't", x.source(1, 5), BAD);
        due("an owner that there isn't", x.source(1, -2), BAD);
        due("scope", x.scope(NONE), 1);
        due("owned", x.source(7, 1), 2);
        due("owner", x.cellOf(2, 1), 1);
        x.dispose(1);
        due("an owner that is gone", x.source(1, 1), BAD);
        for (int i = 3; i < 24; i++) {
            due("source", x.source(0, NONE), i);
        }
        due("full", x.source(0, NONE), FULL);
        due("bad ahead of full", x.source(0, 1), BAD);
    }

    private static void scopes() {
        promise = "12";
        PulledSignals x = new PulledSignals();
        due("scope", x.scope(NONE), 0);
        due("scope in a scope", x.scope(0), 1);
        due("kind", x.cellOf(1, 0), 5);
        due("owner", x.cellOf(1, 1), 0);
        due("colour", x.cellOf(1, 3), 0);
        memo(x, "1");
        due("a memo owns nothing", x.scope(2), BAD);
        effect(x, "1");
        due("an effect does", x.scope(3), 4);
        for (int i = 5; i < 24; i++) {
            x.scope(NONE);
        }
        due("full", x.scope(NONE), FULL);
        due("bad ahead of full", x.scope(2), BAD);
    }

    private static void memos() {
        promise = "13";
        PulledSignals x = withCells(1);
        due("memo", memo(x, "a+1"), 1);
        due("tape", x.status(7), 0);
        due("dirty", x.cellOf(1, 3), 2);
        due("outcome", x.kept(1), 0);
        due("runs", x.cellOf(1, 5), 0);
        due("reads", x.cellOf(1, 6), 0);
        due("no letter of its own yet", memo(x, "1+c"), -202);
        due("refused", x.status(12), 1);
        feed(x, "1+");
        due("owner ahead of the fault", x.memo(0), BAD);
        due("tape", x.status(7), 0);
        feed(x, "1+");
        due("fault", x.memo(NONE), -202);
        due("tape", x.status(7), 0);
        for (int i = 2; i < 24; i++) {
            due("memo", memo(x, "a"), i);
        }
        due("fault ahead of full", memo(x, "1+"), -202);
        due("full", memo(x, "1+2"), FULL);
        due("tape", x.status(7), 0);
        due("refused", x.status(12) * 10 + x.status(16), 41);
    }

    private static void faults() {
        promise = "13, FAULT";
        String[] texts = {"", "+", "1+", "1234", "12a", "c", "~", "~1", "~~a", "a~b", "(", "(1", "(1]", "()", "1)",
            "[1", "[1?", "[1?2", "[1?2:", "[1?2:3", "[1:2", "[1?2?3", "[1?2:3:", "[1?2]", "^", "^1", "^(", "^(1", "^(1)",
            "^(1,", "^(1,2", "^(1,2,", "1<2<3", "1<2=3", "(1<2)>3<4", "1<", "-", "--", "-+1", "1--", "1 ", " 1", "A",
            "1+*2", "1?2", "1:2", "1,2", "[1<2>3", "^(1<2,3=4>5", "[a?b:a]b", "^[", "1\u00e4", "a(", "1(2)"};
        int[] places = {0, 0, 2, 3, 2, 0, 1, 1, 1, 1, 1, 2, 2, 1, 1,
            2, 3, 4, 5, 6, 2, 4, 6, 4, 1, 1, 2, 3, 3,
            4, 5, 5, 3, 3, 7, 2, 1, 2, 1, 3, 1, 0, 0,
            2, 1, 1, 1, 4, 9, 7, 1, 1, 1, 1};
        for (int i = 0; i < texts.length; i++) {
            PulledSignals x = withCells(2);
            due("fault of " + texts[i], memo(x, texts[i]), -200 - places[i]);
            due("fault of " + texts[i], effect(x, texts[i]), -200 - places[i]);
            due("cells", x.status(0), 2);
            due("refused", x.status(12), 2);
        }
        PulledSignals x = withCells(2);
        String[] good = {"1", "12", "123", "a", "~a", "-1", "--a", "(1)", "[1?2:3]", "^(1,2)", "1<2", "(1<2)<(3<4)",
            "a-~b", "1--1", "[1<2?3<4:5<6]", "^(1<2,3<4)", "-(1<2)", "000"};
        for (int i = 0; i < good.length; i++) {
            due("formula " + good[i], memo(x, good[i]), 2 + i);
        }
    }

    private static void effects() {
        promise = "14";
        PulledSignals x = withCells(1);
        due("effect", effect(x, "a*2"), 1);
        due("tape", x.status(7), 0);
        due("it has run", x.cellOf(1, 5), 1);
        due("log", x.log(0), 1);
        due("logged", x.logged(0), 0);
        due("clean", x.cellOf(1, 3), 0);
        x.begin();
        due("effect", effect(x, "a+7"), 2);
        due("it waits", x.cellOf(2, 5), 0);
        due("queue", x.queued(0), 2);
        x.end();
        due("logged", x.logged(1), 7);
        due("fault", effect(x, "d"), -200);
        feed(x, "d");
        due("owner ahead of the fault", x.effect(0), BAD);
        due("tape", x.status(7), 0);
        for (int i = 3; i < 24; i++) {
            x.source(0, NONE);
        }
        due("full", effect(x, "1"), FULL);
        due("tape", x.status(7), 0);
        due("counted", x.status(4), 2);
    }

    private static void effectsThatOwn() {
        promise = "14, what an EFFECT owns";
        PulledSignals x = withCells(1);
        effect(x, "a");
        x.source(1, 1);
        x.scope(1);
        x.source(2, 3);
        due("owns", x.cellOf(1, 8), 0b1100);
        x.write(0, 5);
        due("gone", x.status(1), 3);
        due("deepest first", x.disposed(0) * 100 + x.disposed(1) * 10 + x.disposed(2), 432);
        due("owns", x.cellOf(1, 8), 0);
        due("logged", x.logged(1), 5);
        feed(x, "a");
        x.memo(1);
        effect(x, "f");
        x.begin();
        x.write(0, 6);
        due("queue", x.queued(0) * 10 + x.queued(1), 16);
        x.end();
        due("what it owned is gone for those behind it", x.kept(6), UNREADABLE);
    }

    private static void reforming() {
        promise = "15";
        PulledSignals x = withCells(2);
        memo(x, "a");
        memo(x, "c");
        effect(x, "d");
        x.begin();
        due("reform", reform(x, 2, "a"), 1);
        due("dirty", x.cellOf(2, 3), 2);
        due("those that hang on it to be checked", x.cellOf(3, 3), 1);
        due("and further", x.cellOf(4, 3), 1);
        due("queue", x.queued(0), 4);
        due("reads stay till it runs", x.reads(2, 0), 0);
        x.end();
        due("it ran", x.cellOf(2, 5), 2);
        due("the same outcome runs no other", x.cellOf(3, 5), 1);
        due("the effect was but checked", x.status(4), 1);
        reform(x, 2, "b+c");
        due("its own letter", x.kept(2), RING);
        due("reads", x.cellOf(2, 6), 1);
        x.begin();
        x.write(0, 5);
        reform(x, 3, "b");
        reform(x, 4, "a");
        due("an effect that was clean is queued once", x.status(3), 1);
        x.end();
        due("effect", x.kept(4), 5);
        due("fault", reform(x, 2, "b+"), -202);
        dueText("formula", Seen.formula(x, 2), "(b+c)");
        feed(x, "+");
        due("no computed", x.reform(0), BAD);
        due("tape", x.status(7), 0);
        feed(x, "+");
        due("no cell", x.reform(9), BAD);
        x.dispose(3);
        feed(x, "+");
        due("gone", x.reform(3), STUCK);
        due("tape", x.status(7), 0);
    }

    private static void writing() {
        promise = "16";
        PulledSignals x = withCells(1);
        effect(x, "a");
        due("write", x.write(0, 5), 1);
        due("another", x.write(0, MIN), 2);
        due("the same", x.write(0, MIN), 2);
        due("runs", x.cellOf(1, 5), 3);
        due("no source", x.write(1, 5), BAD);
        due("no cell", x.write(2, 5), BAD);
        due("no cell", x.write(-1, 5), BAD);
        x.dispose(0);
        due("gone", x.write(0, 5), STUCK);
    }

    private static void marking() {
        promise = "16, MARKS";
        PulledSignals x = withCells(2);
        memo(x, "a%2");
        memo(x, "c+1");
        effect(x, "d");
        effect(x, "b");
        x.begin();
        x.write(0, 2);
        due("dirty", x.cellOf(2, 3), 2);
        due("check", x.cellOf(3, 3), 1);
        due("check", x.cellOf(4, 3), 1);
        x.write(1, 7);
        due("queue in the order of the marks", x.queued(0) * 10 + x.queued(1), 45);
        due("nothing worked out", x.cellOf(2, 5), 1);
        x.end();
        due("one that came to the same", x.cellOf(2, 5), 2);
        due("stops what hangs on it", x.cellOf(3, 5), 1);
        due("the effect, too", x.cellOf(4, 5), 1);
        due("all clean", x.colours(0), 6);
        x.begin();
        x.write(1, 8);
        x.write(0, 3);
        due("queue", x.queued(0) * 10 + x.queued(1), 54);
        due("read pulls", x.read(3), 2);
        due("direct reader of what changed", x.cellOf(4, 3), 2);
        x.end();
        due("log", x.logged(3), 8);
        due("log", x.logged(4), 2);
    }

    private static void batches() {
        promise = "17, 18";
        PulledSignals x = withCells(1);
        effect(x, "a");
        due("none begun", x.end(), STUCK);
        due("begin", x.begin(), 1);
        due("begin", x.begin(), 2);
        x.write(0, 4);
        due("end", x.end(), 1);
        due("waits", x.status(4), 1);
        due("begun", x.status(2), 1);
        due("end", x.end(), 0);
        due("ran once", x.status(4), 2);
        due("stuck", x.end(), STUCK);
        due("refused", x.status(15), 2);
    }

    private static void disposing() {
        promise = "19";
        PulledSignals x = withCells(1);
        x.scope(NONE);
        x.scope(1);
        x.source(9, 1);
        feed(x, "d+a");
        x.memo(2);
        memo(x, "e");
        effect(x, "f");
        due("logged", x.logged(0), 9);
        due("dispose", x.dispose(1), 4);
        int[] order = {3, 4, 2, 1};
        for (int i = 0; i < order.length; i++) {
            due("disposed", x.disposed(i), order[i]);
        }
        due("what hung on it", x.kept(6), UNREADABLE);
        due("kept", x.kept(3), 9);
        due("reads", x.cellOf(4, 6), 0);
        due("formula stays", x.spelled(4, 1), 'd');
        due("gone", x.dispose(1), STUCK);
        due("gone", x.dispose(4), STUCK);
        due("no cell", x.dispose(7), BAD);
        due("no cell", x.dispose(-1), BAD);
        effect(x, "a");
        x.source(1, 7);
        x.begin();
        x.write(0, 1);
        due("in a batch", x.dispose(5), 1);
        due("queue", x.status(3), 2);
        due("out of the queue", x.dispose(6), 1);
        due("queue", x.queued(0), 7);
        x.end();
        due("what the flush disposed of", x.status(1), 7);
        x.source(1, 7);
        effect(x, "j");
        effect(x, "1", 7);
        due("owned by the effect", x.cellOf(7, 8), 1 << 9 | 1 << 11);
        due("with those of the flush", x.dispose(0), 3);
        due("and the reader of one of them ran", x.kept(10), UNREADABLE);
    }

    private static void reading() {
        promise = "20";
        versions();
        PulledSignals x = withCells(1);
        memo(x, "a+1");
        x.scope(NONE);
        effect(x, "b");
        due("source", x.read(0), 0);
        due("memo", x.read(1), 1);
        due("not again", x.cellOf(1, 5), 1);
        x.begin();
        x.write(0, 4);
        due("an effect as it is", x.read(3), 1);
        due("a memo refreshed", x.read(1), 5);
        due("batch", x.status(3), 1);
        x.end();
        due("scope", x.read(2), LONG_BAD);
        due("no cell", x.read(4), LONG_BAD);
        due("no cell", x.read(-1), LONG_BAD);
        x.dispose(1);
        x.dispose(2);
        due("gone", x.read(1), LONG_STUCK);
        due("a scope that is gone", x.read(2), LONG_BAD);
    }

    private static void versions() {
        PulledSignals x = withCells(1);
        memo(x, "a*0");
        memo(x, "b");
        due("no version yet", x.cellOf(1, 4), 0);
        due("the first outcome is 0", x.read(2), 0);
        due("a version all the same", x.cellOf(1, 4), 1);
        x.write(0, 3);
        x.read(2);
        due("the same outcome", x.cellOf(1, 4), 1);
        due("but another run", x.cellOf(1, 5), 2);
        due("its reader was but checked", x.cellOf(2, 5), 1);
    }

    private static void failing() {
        promise = "20, FAILS";
        PulledSignals x = withCells(2);
        x.scope(NONE);
        effect(x, "1");
        due("by 0", x.read(memo(x, "1/a")), ZERO);
        due("rest by 0", x.read(memo(x, "1%a")), ZERO);
        due("scope", x.read(memo(x, "c")), UNREADABLE);
        due("effect", x.read(memo(x, "d")), UNREADABLE);
        due("handed on", x.read(memo(x, "b+e*2")), ZERO);
        due("the first one", x.read(memo(x, "c+e")), UNREADABLE);
        due("none behind it is read", x.cellOf(9, 6), 0);
        due("reads up to it", x.cellOf(8, 6), 2);
        due("not worked out", x.read(memo(x, "[b?a:e]")), 0);
        due("not read", x.cellOf(10, 6), 2);
        due("both are worked out", x.read(memo(x, "^(b,e)")), ZERO);
        due("asked", x.read(memo(x, "[e?1:2]")), ZERO);
        x.write(0, 2);
        due("well again", x.read(8), 1);
    }

    private static void keeping() {
        promise = "21";
        PulledSignals x = withCells(1);
        memo(x, "a+1");
        due("nothing refreshed", x.kept(1), 0);
        x.read(1);
        x.write(0, 8);
        due("as it is", x.kept(1), 1);
        x.dispose(1);
        due("gone", x.kept(1), 1);
        due("source", x.kept(0), 8);
        x.scope(NONE);
        due("scope", x.kept(2), LONG_BAD);
        due("no cell", x.kept(3), LONG_BAD);
        due("no cell", x.kept(-1), LONG_BAD);
    }

    private static void cellsOf() {
        promise = "22";
        PulledSignals x = new PulledSignals();
        x.scope(NONE);
        x.source(3, 0);
        feed(x, "b+~b+b");
        x.memo(0);
        effect(x, "c+b+~c", 0);
        int[][] want = {
            {5, NONE, 0, 0, 0, 0, 0, 0, 0b1110, 0, 0},
            {1, 0, 0, 0, 0, 0, 0, 0b1100, 0, 0, 0},
            {3, 0, 0, 0, 1, 1, 1, 0b1000, 0, 0, 1},
            {4, 0, 0, 0, 1, 1, 2, 0, 0, 0, 2}};
        for (int c = 0; c < 4; c++) {
            for (int what = 0; what <= 10; what++) {
                due("cellOf " + c + ", " + what, x.cellOf(c, what), want[c][what]);
            }
        }
        x.begin();
        x.write(1, 4);
        due("version", x.cellOf(1, 4), 1);
        due("colour", x.cellOf(2, 3) * 10 + x.cellOf(3, 3), 22);
        due("queue", x.cellOf(3, 9), 1);
        x.dispose(3);
        due("gone", x.cellOf(3, 2), 1);
        due("colour", x.cellOf(3, 3), 0);
        due("queue", x.cellOf(3, 9), 0);
        due("owner", x.cellOf(3, 1), 0);
        due("owns", x.cellOf(0, 8), 0b110);
        due("what -1", x.cellOf(0, -1), BAD);
        due("what 11", x.cellOf(0, 11), BAD);
        due("no cell", x.cellOf(4, 0), BAD);
        due("no cell", x.cellOf(-1, 0), BAD);
    }

    private static void readsOf() {
        promise = "23";
        PulledSignals x = withCells(3);
        memo(x, "c+~b+a+c*a");
        due("not run yet", x.reads(3, 0), BAD);
        x.read(3);
        due("first read", x.reads(3, 0), 2);
        due("then", x.reads(3, 1), 0);
        due("no more", x.reads(3, 2), BAD);
        due("-1", x.reads(3, -1), BAD);
        due("source", x.reads(0, 0), BAD);
        due("no cell", x.reads(4, 0), BAD);
        memo(x, "[a?b:c]");
        x.read(4);
        x.write(0, 1);
        due("till it runs", x.reads(4, 1), 2);
        x.read(4);
        due("another way", x.reads(4, 1), 1);
    }

    private static void spelling() {
        promise = "24";
        PulledSignals x = withCells(3);
        String[] told = {"1", "007", "~a", "-a", "--1", "a+b-c", "a+b*c", "(a+b)*c", "a*b/c%2", "-a*b", "-(a*b)",
            "a<b+1", "(a<b)=(b>c)", "[a+1?b:c<1]", "^(a-1,-b)", "((((a))))", "[a?[b?1:2]:^(1,2)]+1",
            "1-~b", "-[a?b:c]*2", "--^(a,b)-1"};
        String[] want = {"1", "007", "~a", "(-a)", "(-(-1))", "((a+b)-c)", "(a+(b*c))", "((a+b)*c)", "(((a*b)/c)%2)",
            "((-a)*b)", "(-(a*b))", "(a<(b+1))", "((a<b)=(b>c))", "[(a+1)?b:(c<1)]", "^((a-1),(-b))", "a",
            "([a?[b?1:2]:^(1,2)]+1)", "(1-~b)", "((-[a?b:c])*2)", "((-(-^(a,b)))-1)"};
        for (int i = 0; i < told.length; i++) {
            int m = memo(x, told[i]);
            dueText(told[i], Seen.formula(x, m), want[i]);
            due("behind it", x.spelled(m, want[i].length()), NONE);
            due("ahead of it", x.spelled(m, -1), NONE);
        }
        due("far behind", x.spelled(3, MAX), NONE);
        due("nothing refused", x.status(12), 0);
        due("source", x.spelled(0, 0), BAD);
        due("no cell", x.spelled(24, 0), BAD);
        due("no cell", x.spelled(-1, 0), BAD);
        due("no computed ahead of none such", x.spelled(0, -1), BAD);
        x.dispose(3);
        due("gone", x.spelled(3, 0), '1');
        effect(x, "a");
        due("effect", x.spelled(23, 0), 'a');
        reform(x, 23, "b+1");
        dueText("another formula", Seen.formula(x, 23), "(b+1)");
    }

    private static void plainOutcomes() {
        promise = "25";
        PulledSignals x = withCells(1);
        memo(x, "a+1");
        memo(x, "b*2");
        effect(x, "c+b");
        x.scope(NONE);
        x.begin();
        x.write(0, 10);
        due("source", x.plain(0), 10);
        due("memo", x.plain(2), 22);
        due("effect", x.plain(3), 33);
        due("nothing is changed", x.cellOf(2, 5) * 10 + x.cellOf(2, 3), 11);
        due("scope", x.plain(4), LONG_BAD);
        due("no cell", x.plain(5), LONG_BAD);
        due("no cell", x.plain(-1), LONG_BAD);
        x.dispose(1);
        due("gone", x.plain(1), 11);
        due("one that reads it", x.plain(2), UNREADABLE);
        due("untracked, too", x.plain(memo(x, "~b")), UNREADABLE);
        due("an effect is unreadable", x.plain(memo(x, "d")), UNREADABLE);
        x.dispose(0);
        due("a source that is gone", x.plain(0), 10);
        due("by 0", x.plain(memo(x, "1/0")), ZERO);
        int ring = memo(x, "1");
        reform(x, ring, "i");
        due("ring", x.plain(ring), RING);
        reform(x, 3, "d");
        due("an effect of itself", x.plain(3), UNREADABLE);
        int x1 = memo(x, "1");
        int x2 = memo(x, "[~j?1:2]+j");
        reform(x, x1, "[k?k:k]");
        due("ring of two", x.plain(x2), RING);
    }

    private static void whatIfs() {
        promise = "26";
        PulledSignals x = withCells(2);
        memo(x, "a*b");
        due("what if", x.whatIf(1, 7, 2), 0);
        x.write(0, 3);
        due("what if", x.whatIf(1, 7, 2), 21);
        due("the source itself", x.whatIf(1, 7, 1), 7);
        due("another source", x.whatIf(1, 7, 0), 3);
        due("nothing changed", x.plain(2), 3);
        due("no source", x.whatIf(2, 7, 2), LONG_BAD);
        due("no cell", x.whatIf(3, 7, 2), LONG_BAD);
        due("no cell", x.whatIf(0, 7, 3), LONG_BAD);
        due("no cell", x.whatIf(-1, 7, -1), LONG_BAD);
        x.scope(NONE);
        due("scope", x.whatIf(0, 7, 3), LONG_BAD);
        x.dispose(0);
        due("a source that is gone", x.whatIf(0, 9, 0), 9);
        due("is unreadable still", x.whatIf(0, 9, 2), UNREADABLE);
    }

    private static void aiming() {
        promise = "27";
        PulledSignals x = withCells(1);
        memo(x, "a*a-9");
        due("least", x.aim(0, 1, 0), -20);
        memo(x, "-a");
        memo(x, "10/a");
        due("least", x.aim(0, 2, 20), -20);
        due("none", x.aim(0, 2, 21), 100);
        due("the last", x.aim(0, 0, 20), 20);
        due("none", x.aim(0, 0, 21), 100);
        due("by 0 is none", x.aim(0, 3, 1), 1);
        due("all", x.aim(0, 3, MIN), -20);
        memo(x, "1/0");
        due("a fail is no number", x.aim(0, 4, MIN), 100);
        due("no source", x.aim(1, 1, 0), BAD);
        due("no cell", x.aim(0, 5, 0), BAD);
        x.scope(NONE);
        due("scope", x.aim(0, 5, 0), BAD);
        due("scope", x.aim(5, 0, 0), BAD);
    }

    private static void news() {
        promise = "28";
        PulledSignals x = withCells(2);
        memo(x, "a%2");
        memo(x, "c+b");
        effect(x, "a");
        memo(x, "b");
        due("news", x.news(0, 2), 1 << 4);
        due("news", x.news(0, 1), 1 << 2 | 1 << 3 | 1 << 4);
        due("none", x.news(0, 0), 0);
        memo(x, "1/a");
        due("fail or number", x.news(0, 5) >> 6, 1);
        due("no source", x.news(2, 0), BAD);
        due("no cell", x.news(7, 0), BAD);
        x.dispose(4);
        due("gone", x.news(0, 2), 1 << 6);
        x.begin();
        x.write(0, 2);
        due("against plain outcomes of now", x.news(0, 2), 0);
        x.dispose(0);
        due("a source that is gone", x.news(0, 99), 0);
    }

    private static void reaching() {
        promise = "29";
        PulledSignals x = withCells(2);
        memo(x, "a");
        memo(x, "c+~b");
        due("not run yet", x.reaches(3, 2), 0);
        x.read(3);
        due("reads", x.reaches(3, 2), 1);
        due("theirs", x.reaches(3, 0), 1);
        due("untracked", x.reaches(3, 1), 0);
        due("back", x.reaches(0, 3), 0);
        due("itself", x.reaches(3, 3), 0);
        due("no cell", x.reaches(3, 4), BAD);
        due("no cell", x.reaches(-1, 0), BAD);
        reform(x, 2, "d+a");
        x.read(2);
        due("in a ring", x.reaches(2, 2), 1);
        due("in a ring", x.reaches(3, 3), 1);
        due("counts itself", x.cellOf(2, 10), 3);
        reform(x, 2, "c");
        x.read(2);
        due("its own letter is no read", x.reaches(2, 2), 0);
    }

    private static void colouring() {
        promise = "30";
        PulledSignals x = withCells(1);
        x.scope(NONE);
        memo(x, "a");
        memo(x, "c");
        x.read(3);
        memo(x, "1");
        due("clean", x.colours(0), 4);
        due("check", x.colours(1), 0);
        due("dirty", x.colours(2), 1);
        x.write(0, 1);
        due("clean", x.colours(0), 2);
        due("check", x.colours(1), 1);
        due("dirty", x.colours(2), 2);
        x.dispose(4);
        x.dispose(1);
        due("gone", x.colours(0) * 10 + x.colours(2), 11);
        due("-1", x.colours(-1), BAD);
        due("3", x.colours(3), BAD);
    }

    private static void signing() {
        promise = "31";
        PulledSignals x = new PulledSignals();
        due("7 0 7", x.signs(7, 0, 7), 0b11);
        due("7 0 0", x.signs(7, 0, 0), 1 << 2 | 1 << 5 | 1 << 6);
        due("2 2 4", x.signs(2, 2, 4), 0b101);
        due("2 2 1", x.signs(2, 2, 1), 1 << 3 | 1 << 6);
        due("1 2 1", x.signs(1, 2, 1), 1 << 4 | 1 << 5);
        due("-7 2 -3", x.signs(-7, 2, -3), 1 << 3);
        due("-7 2 -1", x.signs(-7, 2, -1), 1 << 4);
        due("3 2 1", x.signs(3, 2, 1), 1 << 1 | 1 << 3 | 1 << 4 | 1 << 7);
        due("MIN -1 MIN", x.signs(MIN, -1, MIN), 1 << 2 | 1 << 3);
        due("MIN -1 0", x.signs(MIN, -1, 0), 1 << 4 | 1 << 6 | 1 << 7);
        due("wraps", x.signs(MAX, 1, MIN), 1);
        due("none", x.signs(5, 5, 99), 0);
        due("refused", x.status(12), 0);
    }

    private static void logs() {
        promise = "32, 33";
        PulledSignals x = withCells(1);
        due("none", x.log(0), BAD);
        due("none", x.logged(0), LONG_BAD);
        effect(x, "a");
        effect(x, "1/a");
        for (int i = 1; i <= 40; i++) {
            x.write(0, i);
        }
        due("log", x.log(0) * 100 + x.log(1) * 10 + x.log(2), 121);
        due("logged", x.logged(1), ZERO);
        due("logged", x.logged(2), 1);
        due("the last one", x.log(59), 2);
        due("the last one", x.logged(58), 29);
        due("none kept", x.log(60), BAD);
        due("none kept", x.logged(60), LONG_BAD);
        due("-1", x.log(-1), BAD);
        due("-1", x.logged(-1), LONG_BAD);
        due("counted", x.status(4), 82);
        x.show(0, 1);
        due("all that are counted", x.says(0, 4), 41);
    }

    private static void theDisposed() {
        promise = "34";
        PulledSignals x = withCells(3);
        due("none", x.disposed(0), BAD);
        x.dispose(2);
        x.dispose(0);
        due("first", x.disposed(0), 2);
        due("then", x.disposed(1), 0);
        due("no more", x.disposed(2), BAD);
        due("-1", x.disposed(-1), BAD);
        due("counted", x.status(5), 2);
        for (int i = 3; i < 24; i++) {
            x.scope(NONE);
        }
        for (int i = 23; i > 2; i--) {
            x.dispose(i);
        }
        x.dispose(1);
        due("the last one", x.disposed(23), 1);
        due("counted", x.status(5), 24);
    }

    private static void queues() {
        promise = "35";
        PulledSignals x = withCells(2);
        effect(x, "b");
        effect(x, "a");
        effect(x, "a+b");
        due("empty", x.queued(0), BAD);
        x.begin();
        x.write(0, 1);
        x.write(1, 7);
        due("by numbers, then behind", x.queued(0) * 100 + x.queued(1) * 10 + x.queued(2), 342);
        due("no more", x.queued(3), BAD);
        due("-1", x.queued(-1), BAD);
        effect(x, "1");
        due("a new one behind", x.queued(3), 5);
        x.dispose(4);
        due("out of it", x.queued(1), 2);
        x.end();
        due("log", x.log(3) * 100 + x.log(4) * 10 + x.log(5), 325);
    }

    /** Two memos that change each other by turns keep two effects over both in the queue. */
    private static void endlessQueue() {
        promise = "14, FLUSH ends";
        PulledSignals x = new PulledSignals();
        memo(x, "1");
        memo(x, "a");
        x.read(1);
        reform(x, 0, "1-b");
        due("read", x.read(0), 0);
        effect(x, "a+b");
        due("ran", x.status(4), 1);
        due("queue", x.status(3), 0);
        effect(x, "a+b");
        due("100 were taken out", x.status(4), 101);
        due("what is in the queue stays", x.status(3), 1);
        due("a memo that comes doesn't flush", memo(x, "1"), 4);
        due("counted", x.status(4), 101);
        x.read(4);
        due("a read does", x.status(4), 201);
        x.source(0, NONE);
        x.scope(NONE);
        due("a source that comes doesn't", x.status(4), 201);
        x.write(5, 0);
        due("a write does", x.status(4), 301);
        x.begin();
        x.write(5, 1);
        due("not in a batch", x.status(4), 301);
        x.end();
        due("but behind it", x.status(4), 401);
        due("disposing of the one that waits", x.dispose(x.queued(0)), 1);
        due("ends it", x.status(3), 0);
    }

    private static void judging() {
        promise = "36";
        PulledSignals x = withCells(1);
        effect(x, "a");
        effect(x, "a+5");
        effect(x, "1/a");
        x.row(0, 3, 7);
        long[] told = {1, 0, 2, 5, 3, ZERO, 1};
        for (int i = 0; i < told.length; i++) {
            x.set(0, i, told[i]);
        }
        due("none told", x.judge(0, 0), NONE);
        due("as it is", x.judge(0, 2), NONE);
        due("a fail", x.judge(0, 3), 2);
        due("fewer elements", x.judge(0, 4), BAD);
        x.set(0, 3, 6);
        due("another outcome", x.judge(0, 2), 1);
        x.set(0, 0, 2);
        due("another effect", x.judge(0, 2), 0);
        x.row(1, 2, 40);
        due("n 20", x.judge(1, 20), 0);
        due("n 21", x.judge(1, 21), BAD);
        due("n -1", x.judge(1, -1), BAD);
        due("n ahead of a cell", x.judge(3, 21), BAD);
        due("shelf", x.judge(8, 0), BAD);
        due("nothing", x.judge(2, 0), NOTHING);
        x.show(3, 0);
        due("a cell", x.judge(3, 0), OTHER);
        PulledSignals y = withCells(1);
        effect(y, "a");
        y.row(0, 4, 4);
        y.set(0, 0, 1);
        due("booleans are numbers", y.judge(0, 1), NONE);
        due("none kept", y.judge(0, 2), 1);
        due("refused", y.status(12), 0);
    }

    private static int drawn(int[] seed, int n) {
        seed[0] = seed[0] * 1103515245 + 12345;
        return (seed[0] >>> 16) % n;
    }

    private static void dayByDay() {
        promise = "37";
        PulledSignals x = new PulledSignals();
        due("no cells", x.days(1), STUCK);
        due("n 0", x.days(0), BAD);
        due("n 61", x.days(61), BAD);
        x.source(1, NONE);
        x.scope(NONE);
        x.source(2, NONE);
        effect(x, "a*100+c");
        x.source(3, NONE);
        x.dispose(4);
        int[] seed = {1};
        int[] has = {1, 0, 2};
        int wrote = 0;
        for (int day = 0; day < 60; day++) {
            int c = drawn(seed, 5);
            if (c == 0 || c == 2) {
                int v = drawn(seed, 21) - 10;
                wrote += v != has[c] ? 1 : 0;
                has[c] = v;
            }
        }
        due("days", x.days(60), wrote);
        due("seed", x.status(8), seed[0]);
        due("a", x.kept(0), has[0]);
        due("c", x.kept(2), has[2]);
        due("each day flushed", x.status(4), wrote + 1);
        x.begin();
        x.days(60);
        due("but in a batch", x.status(4), wrote + 1);
        due("queue", x.status(3), 1);
        due("one", x.days(1) <= 1 ? 1 : 0, 1);
    }

    private static void seeds() {
        promise = "38";
        PulledSignals x = new PulledSignals();
        due("at first", x.seed(MIN), 1);
        due("seed", x.seed(-5), MIN);
        due("status", x.status(8), -5);
    }

    private static void images() {
        promise = "39, 40";
        PulledSignals x = withCells(2);
        due("nothing was kept", x.back(), STUCK);
        memo(x, "a+b");
        effect(x, "c");
        x.begin();
        x.write(0, 5);
        x.seed(77);
        due("image", x.image(), 1);
        x.end();
        x.write(0, 9);
        reform(x, 2, "a*b*2");
        effect(x, "c", 3);
        x.show(0, 4);
        x.show(1, 1);
        x.row(2, 0, 1);
        x.dispose(1);
        x.seed(3);
        x.end();
        feed(x, "xy");
        due("back", x.back(), 1);
        due("cells", x.status(0), 4);
        due("gone", x.status(1), 0);
        due("batches", x.status(2), 1);
        due("queue", x.queued(0), 3);
        due("log", x.status(4), 1);
        due("disposed", x.status(5), 0);
        due("runs", x.status(6), 2);
        due("seed", x.status(8), 77);
        due("tape stays", x.status(7), 2);
        due("refusals stay", x.status(15), 2);
        due("a shelf with no cell now", x.holds(0), NONE);
        due("a shelf with the same cell", x.holds(1), 11);
        due("a row stays", x.holds(2), 0);
        dueText("formula", Seen.formula(x, 2), "(a+b)");
        due("reads", x.reads(2, 0) * 10 + x.reads(2, 1), 1);
        due("reads", x.cellOf(2, 6), 2);
        due("kept", x.kept(2), 1);
        due("colour", x.cellOf(2, 3), 2);
        x.wipe();
        x.end();
        due("goes on", x.logged(1), 6);
        due("another formula", effect(x, "c+1"), 4);
        due("outcome", x.kept(4), 7);
        due("back again", x.back(), 1);
        due("cells", x.status(0), 4);
        due("log", x.log(1), BAD);
        x.end();
        x.image();
        x.write(0, 100);
        x.back();
        due("the latest image", x.status(4), 2);
        due("a number that was another's", x.scope(NONE), 4);
        due("is new", x.cellOf(4, 0) * 10 + x.cellOf(4, 6), 50);
    }

    private static void statuses() {
        promise = "41";
        PulledSignals x = withCells(3);
        memo(x, "a");
        effect(x, "d");
        x.dispose(1);
        x.begin();
        x.write(0, 7);
        feed(x, "abcd");
        x.row(0, 0, 0);
        x.show(1, 0);
        int[] want = {5, 1, 1, 1, 1, 1, 2, 4, 1, 2, NONE, NONE, 0, 0, 0, 0, 0, NONE};
        for (int what = 0; what < want.length; what++) {
            due("status " + what, x.status(what), want[what]);
        }
        due("-1", x.status(-1), NONE);
        x.row(9, 9, 9);
        x.set(1, 0, 0);
        x.set(2, 0, 0);
        x.write(1, 1);
        x.wipe();
        for (int i = 0; i <= 250; i++) {
            x.feed(1);
        }
        for (int what = 12; what <= 16; what++) {
            due("refused " + what, x.status(what), 1);
        }
        x.plain(99);
        due("longs, too", x.status(12), 2);
    }

    private static void rings() {
        promise = "20, RINGS";
        PulledSignals x = withCells(1);
        memo(x, "a");
        memo(x, "b+1");
        reform(x, 1, "[a?c:5]");
        due("no ring yet", x.read(2), 6);
        x.write(0, 1);
        due("ring", x.read(2), RING);
        due("and the other", x.read(1), RING);
        x.write(0, 0);
        due("well again", x.read(2), 6);
        memo(x, "1");
        reform(x, 3, "~d");
        due("itself untracked", x.read(3), RING);
        reform(x, 3, "[a?d:8]");
        due("not asked", x.read(3), 8);
        // One that is checked is busy, too: the ring is passed by, and it stays clean.
        PulledSignals y = new PulledSignals();
        memo(y, "1");
        memo(y, "a");
        y.read(1);
        reform(y, 0, "1-b");
        due("colour", y.cellOf(1, 3), 1);
        due("read", y.read(0), 0);
        due("then its reader is dirty", y.cellOf(1, 3), 2);
        due("read", y.read(1), 0);
        due("and so on", y.cellOf(0, 3), 2);
    }

    private static void workingOut() {
        promise = "20, FORMULAS";
        PulledSignals x = new PulledSignals();
        x.source(MIN, NONE);
        x.source(-7, NONE);
        String[] texts = {"a-1", "-a", "a/-1", "a%-1", "b/2", "b%2", "a*2", "2+3*4", "(2+3)*4", "9-3-2", "64/4/2",
            "1<2", "2<1", "2=2", "2>1", "1+1>1", "^(b,3)", "^(3,b)", "[0?1:2]", "[b?1:2]", "--7", "2--3"};
        long[] want = {MAX, MIN, MIN, 0, -3, -1, 0, 14, 20, 4, 8, 1, 0, 1, 1, 1, 3, 3, 2, 1, 7, 5};
        for (int i = 0; i < texts.length; i++) {
            int m = memo(x, texts[i]);
            due(texts[i], x.read(m), want[i]);
            due(texts[i], x.plain(m), want[i]);
        }
    }

    private static void deepTapes() {
        promise = "13, the longest tapes";
        String[] pieces = {"(", "-", "[", "^(", "[1?", "^(1,", "1+(", "-("};
        for (String piece : pieces) {
            PulledSignals x = new PulledSignals();
            while (x.status(7) + piece.length() <= 250) {
                feed(x, piece);
            }
            due("too early", x.memo(NONE), -200 - 250 / piece.length() * piece.length());
        }
        longestTape("-".repeat(249) + "1", -1, 249 * 3 + 1);
        longestTape("(".repeat(124) + "7" + ")".repeat(124), 7, 1);
        longestTape("1" + "+1".repeat(124), 125, 249 + 2 * 124);
        PulledSignals y = new PulledSignals();
        y.source(5, NONE);
        for (int i = 1; i < 24; i++) {
            memo(y, (char) ('a' + i - 1) + "+1");
        }
        due("a chain of all", y.read(23), 28);
        due("plain", y.plain(23), 28);
    }

    private static void longestTape(String text, int outcome, int spelled) {
        PulledSignals x = new PulledSignals();
        due("memo", memo(x, text), 0);
        due("outcome", x.read(0), outcome);
        due("the last letter", x.spelled(0, spelled - 1) >= 0 ? 1 : 0, 1);
        due("behind it", x.spelled(0, spelled), NONE);
    }

    /** Each memo asks three times for the one ahead, which two others by turns have made dirty again. */
    private static PulledSignals multiplyingRings() {
        PulledSignals x = new PulledSignals();
        memo(x, "1");
        memo(x, "a");
        x.read(1);
        reform(x, 0, "1-b");
        x.read(0);
        for (int c = 2; c < 24; c++) {
            String ahead = (c == 2 ? 'a' : (char) ('a' + c - 1)) + "+a+b";
            memo(x, ahead + "+" + ahead + "+" + ahead);
        }
        return x;
    }

    private static void ringsThatMultiply() {
        promise = "20, rings that multiply their runs";
        PulledSignals x = multiplyingRings();
        int[] runs = {6, 21, 63, 189};
        for (int c = 2; c < 6; c++) {
            int had = x.status(6);
            x.read(c);
            due("runs of " + c, x.status(6) - had, runs[c - 2]);
        }
    }

    /** a is -b, b is a, c is b+a; each of 13 behind them asks three times for the one ahead, and for b. */
    private static PulledSignals thirteenThrice() {
        PulledSignals x = new PulledSignals();
        memo(x, "1");
        memo(x, "a");
        x.read(1);
        reform(x, 0, "-b");
        x.read(0);
        memo(x, "b+a");
        for (char ahead = 'c'; ahead < 'c' + 13; ahead++) {
            memo(x, ahead + "+b+" + ahead + "+b+" + ahead);
        }
        return x;
    }

    /** No number of runs ends a read or a flush: these make 5,580,130 each. */
    private static void millionsOfRuns() {
        promise = "20, millions of runs";
        PulledSignals x = thirteenThrice();
        due("read", x.read(15), 0);
        dueMillions(x);
        due("all runs", x.status(6), 5_580_133);
        PulledSignals y = thirteenThrice();
        due("effect", effect(y, "p"), 16);
        due("log", y.logged(0), 0);
        due("runs", y.cellOf(16, 5), 1);
        y.dispose(16);
        dueMillions(y);
    }

    private static void dueMillions(PulledSignals x) {
        int thrice = 1;
        for (int cell = 15; cell >= 2; cell--) {
            due("runs of " + cell, x.cellOf(cell, 5), thrice);
            due("colour of " + cell, x.cellOf(cell, 3), 0);
            thrice *= 3;
        }
        due("runs of a", x.cellOf(0, 5), 1_594_325);
        due("versions of a", x.cellOf(0, 4), 1_594_325);
        due("runs of b", x.cellOf(1, 5), 1_594_324);
    }
}
