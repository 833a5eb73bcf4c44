/**
 * Runs of 512 calls by fixed draws, each answered by PulledSignals and by NaiveSignals; behind each
 * call that may change something, a drawn part of all that can be seen of the two is held against
 * each other. Told "all", it looks at all of it, with more calls than the document promises.
 */
public final class ModelTest {
    private static final int SHOWN = 20;
    private static final int PROMISED_CALLS = 512;
    /** What one drawn call may need at most, but for a formula that is fed. */
    private static final int KEPT_BACK = 45;

    private static int wrong = 0;
    private static long dearest = 0;
    private static int cut = 0;

    private long state;
    private PulledSignals x;
    private NaiveSignals y;
    private int left = PROMISED_CALLS;
    private final boolean looksAtAll;
    private final StringBuilder run = new StringBuilder();
    private final int style;

    private ModelTest(long seed, int style, boolean looksAtAll) {
        state = seed * 2862933555777941757L + 3037000493L;
        this.style = style;
        this.looksAtAll = looksAtAll;
    }

    public static void main(String[] args) {
        int runs = args.length > 0 ? Integer.parseInt(args[0]) : 12_000;
        long first = args.length > 1 ? Long.parseLong(args[1]) : 1;
        boolean all = args.length > 2 && args[2].equals("all");
        for (long seed = first; seed < first + runs && wrong < SHOWN; seed++) {
            new ModelTest(seed, (int) (seed % 4), all).play();
        }
        System.out.println("ModelTest: " + runs + " runs, " + wrong + " wrong; dearest call " + dearest
                + " runs of formulas; flushes cut " + cut);
        if (cut == 0) {
            System.out.println("ModelTest: no flush came to its end by the limit");
            wrong++;
        }
        if (wrong != 0) {
            System.exit(1);
        }
    }

    private int draw(int n) {
        state = state * 6364136223846793005L + 1442695040888963407L;
        return (int) ((state >>> 33) % n);
    }

    private boolean oneIn(int n) {
        return draw(n) == 0;
    }

    /** Holds one call of each against the other; each call of x is counted here. */
    private void same(String told, long got, long want) {
        left--;
        if (got != want) {
            wrong++;
            System.out.println("ModelTest: " + run + " then " + told + " answered " + got + ", due is " + want);
        }
    }

    private void play() {
        x = new PulledSignals();
        y = new NaiveSignals();
        if (style == 3 && oneIn(3)) {
            turnRound();
        }
        int changes = 0;
        while (wrong < SHOWN && (looksAtAll ? changes < 220 : left > KEPT_BACK)) {
            long ahead = y.runsMade;
            oneCall();
            changes++;
            dearest = Math.max(dearest, y.runsMade - ahead);
            if (looksAtAll) {
                look();
            } else {
                glance();
                glance();
            }
        }
        while (!looksAtAll && left > 0 && wrong < SHOWN) {
            glance();
        }
        if (!looksAtAll && left != 0) {
            wrong++;
            System.out.println("ModelTest: a run of " + (PROMISED_CALLS - left) + " calls");
        }
        cut += y.flushesCut;
    }

    /** Two memos that change each other by turns, so that effects over both never come to rest. */
    private void turnRound() {
        newMemo("1");
        newMemo("a");
        note("read(1)", x.read(1), y.read(1));
        feedText("1-b");
        note("reform(0)", x.reform(0), y.reform(0));
        note("read(0)", x.read(0), y.read(0));
        for (int i = 0; i < 2; i++) {
            feedText("a+b");
            note("effect(-1)", x.effect(-1), y.effect(-1));
        }
    }

    private void newMemo(String text) {
        feedText(text);
        note("memo(-1)", x.memo(-1), y.memo(-1));
    }

    private int anyCell() {
        int count = y.status(0);
        if (count == 0 || oneIn(25)) {
            return draw(30) - 3;
        }
        return draw(count);
    }

    private int aSource() {
        for (int i = 0; i < 12; i++) {
            int c = anyCell();
            if (c >= 0 && c < y.status(0) && y.cellOf(c, 0) == 1) {
                return c;
            }
        }
        return anyCell();
    }

    private int owner() {
        if (oneIn(3)) {
            return anyCell();
        }
        if (oneIn(2)) {
            for (int i = 0; i < 8; i++) {
                int c = anyCell();
                if (c >= 0 && c < y.status(0) && y.cellOf(c, 0) >= 4) {
                    return c;
                }
            }
        }
        return -1;
    }

    private int shelf() {
        return oneIn(20) ? draw(12) - 2 : draw(4);
    }

    private int number() {
        switch (draw(12)) {
            case 0:
                return Integer.MIN_VALUE + draw(3);
            case 1:
                return Integer.MAX_VALUE - draw(3);
            case 2:
                return draw(Integer.MAX_VALUE);
            default:
                return draw(9) - 4;
        }
    }

    private String letter() {
        int count = y.status(0);
        if (count == 0 || oneIn(60)) {
            return oneIn(2) ? "7" : String.valueOf((char) ('a' + draw(26)));
        }
        return String.valueOf((char) ('a' + draw(count)));
    }

    private String part(int depth) {
        switch (draw(depth <= 0 ? 6 : 11)) {
            case 0:
                return String.valueOf(draw(4));
            case 1:
                return String.valueOf(draw(1000));
            case 2:
                return "~" + letter();
            case 6:
                return "-" + part(depth - 1);
            case 7:
                return "(" + comp(depth - 1) + ")";
            case 8:
            case 9:
                return "[" + comp(depth - 1) + "?" + comp(depth - 1) + ":" + comp(depth - 1) + "]";
            case 10:
                return "^(" + comp(depth - 1) + "," + comp(depth - 1) + ")";
            default:
                return letter();
        }
    }

    private String term(int depth) {
        String s = part(depth);
        while (oneIn(5)) {
            s += "*/%".charAt(draw(3)) + part(depth - 1);
        }
        return s;
    }

    private String sum(int depth) {
        String s = term(depth);
        while (oneIn(3)) {
            s += "+-".charAt(draw(2)) + term(depth - 1);
        }
        return s;
    }

    private String comp(int depth) {
        return oneIn(6) ? sum(depth) + "<=>".charAt(draw(3)) + sum(depth) : sum(depth);
    }

    private String formula() {
        String s = style == 2 ? letter() + (oneIn(2) ? "+" + letter() : "") : comp(2);
        if (style == 3) {
            s = oneIn(2) ? letter() + "+" + letter() : "1-" + letter() + (oneIn(3) ? "*" + letter() : "");
        }
        if (oneIn(12)) {
            int at = draw(s.length() + 1);
            String signs = "+-*/%<=>()[]?:^,~019az {";
            String put = oneIn(2) ? "" : String.valueOf(signs.charAt(draw(signs.length())));
            s = s.substring(0, at) + put + s.substring(Math.min(s.length(), at + draw(2)));
        }
        return s.length() > 250 ? s.substring(0, 250) : s;
    }

    private void feedFormula() {
        String s = formula();
        if (y.status(7) > 0 && !oneIn(4)) {
            note("wipe()", x.wipe(), y.wipe());
        }
        feedText(s);
    }

    private void feedText(String s) {
        if (!looksAtAll && s.length() > left - KEPT_BACK) {
            return;
        }
        for (int i = 0; i < s.length(); i++) {
            note("feed(" + (int) s.charAt(i) + ")", x.feed(s.charAt(i)), y.feed(s.charAt(i)));
        }
    }

    private void note(String told, long got, long want) {
        same(told, got, want);
        run.append(told).append('=').append(want).append(' ');
    }

    private void oneCall() {
        int pick = draw(100);
        if (pick < 55) {
            webCall(pick);
        } else if (pick < 85) {
            askingCall(draw(17));
        } else {
            shelfCall(draw(12));
        }
    }

    private void webCall(int pick) {
        int o = owner();
        int c = anyCell();
        int v = number();
        if (pick < 6) {
            note("source(" + v + ", " + o + ")", x.source(v, o), y.source(v, o));
        } else if (pick < 8) {
            note("scope(" + o + ")", x.scope(o), y.scope(o));
        } else if (pick < 15) {
            feedFormula();
            note("memo(" + o + ")", x.memo(o), y.memo(o));
        } else if (pick < 19) {
            feedFormula();
            note("effect(" + o + ")", x.effect(o), y.effect(o));
        } else if (pick < 25) {
            feedFormula();
            note("reform(" + c + ")", x.reform(c), y.reform(c));
        } else if (pick < 35) {
            int s = aSource();
            note("write(" + s + ", " + v + ")", x.write(s, v), y.write(s, v));
        } else if (pick < 38) {
            note("begin()", x.begin(), y.begin());
        } else if (pick < 43) {
            note("end()", x.end(), y.end());
        } else if (pick < 45) {
            if (oneIn(style == 1 ? 1 : 3)) {
                note("dispose(" + c + ")", x.dispose(c), y.dispose(c));
            }
        } else if (pick < 51) {
            note("read(" + c + ")", x.read(c), y.read(c));
        } else if (pick < 52) {
            note("image()", x.image(), y.image());
        } else if (pick < 53) {
            if (oneIn(3)) {
                note("back()", x.back(), y.back());
            }
        } else if (pick < 54) {
            int n = oneIn(9) ? draw(64) - 1 : draw(6);
            note("days(" + n + ")", x.days(n), y.days(n));
        } else {
            note("seed(" + v + ")", x.seed(v), y.seed(v));
        }
    }

    private void askingCall(int pick) {
        int c = anyCell();
        int d = anyCell();
        int s = aSource();
        int v = number();
        int i = draw(12) - 1;
        switch (pick) {
            case 0: note("kept(" + c + ")", x.kept(c), y.kept(c)); break;
            case 1: note("cellOf(" + c + ", " + i + ")", x.cellOf(c, i), y.cellOf(c, i)); break;
            case 2: note("reads(" + c + ", " + i + ")", x.reads(c, i), y.reads(c, i)); break;
            case 3: note("spelled(" + c + ", " + i + ")", x.spelled(c, i), y.spelled(c, i)); break;
            case 4: note("plain(" + c + ")", x.plain(c), y.plain(c)); break;
            case 5:
                note("whatIf(" + s + ", " + v + ", " + c + ")", x.whatIf(s, v, c), y.whatIf(s, v, c));
                break;
            case 6: note("aim(" + s + ", " + c + ", " + v + ")", x.aim(s, c, v), y.aim(s, c, v)); break;
            case 7: note("news(" + s + ", " + v + ")", x.news(s, v), y.news(s, v)); break;
            case 8: note("reaches(" + c + ", " + d + ")", x.reaches(c, d), y.reaches(c, d)); break;
            case 9: note("colours(" + (i - 3) + ")", x.colours(i - 3), y.colours(i - 3)); break;
            case 10: note("log(" + i + ")", x.log(i), y.log(i)); break;
            case 11: note("logged(" + i + ")", x.logged(i), y.logged(i)); break;
            case 12: note("disposed(" + i + ")", x.disposed(i), y.disposed(i)); break;
            case 13: note("queued(" + i + ")", x.queued(i), y.queued(i)); break;
            case 14: note("status(" + i + ")", x.status(i), y.status(i)); break;
            case 15: note("feed(" + (v % 300) + ")", x.feed(v % 300), y.feed(v % 300)); break;
            default:
                int a = number();
                int w = number();
                note("signs(" + a + ", " + v + ", " + w + ")", x.signs(a, v, w), y.signs(a, v, w));
                break;
        }
    }

    private void shelfCall(int pick) {
        int s = shelf();
        int q = shelf();
        int c = oneIn(4) ? -1 : anyCell();
        int i = draw(12) - 1;
        int n = draw(9) - 1;
        switch (pick) {
            case 0:
            case 1:
                int sort = oneIn(12) ? draw(8) - 2 : draw(5);
                int size = oneIn(9) ? draw(46) - 2 : draw(12);
                note("row(" + s + ", " + sort + ", " + size + ")", x.row(s, sort, size), y.row(s, sort, size));
                break;
            case 2:
            case 3:
                long v = oneIn(3) ? state : number();
                note("set(" + s + ", " + i + ", " + v + ")", x.set(s, i, v), y.set(s, i, v));
                break;
            case 4:
            case 5:
                int j = draw(8);
                note("copy(" + s + ", " + q + ", " + i + ", " + j + ", " + n + ")",
                        x.copy(s, q, i, j, n), y.copy(s, q, i, j, n));
                break;
            case 6: note("element(" + s + ", " + i + ")", x.element(s, i), y.element(s, i)); break;
            case 7: note("holds(" + s + ")", x.holds(s), y.holds(s)); break;
            case 8: note("show(" + s + ", " + c + ")", x.show(s, c), y.show(s, c)); break;
            case 9:
                int kind = draw(8) - 1;
                note("says(" + s + ", " + kind + ")", x.says(s, kind), y.says(s, kind));
                break;
            case 10: note("judge(" + s + ", " + n + ")", x.judge(s, n), y.judge(s, n)); break;
            default: judgeWhatIsLogged(s, n); break;
        }
    }

    /** A row that tells the log as it is, but for one number now and then. */
    private void judgeWhatIsLogged(int s, int n) {
        note("row(" + s + ", 3, 40)", x.row(s, 3, 40), y.row(s, 3, 40));
        for (int k = 0; k < Math.min(n, y.status(4)); k++) {
            int e = y.log(k) + (oneIn(9) ? 1 : 0);
            long v = y.logged(k);
            note("set(" + s + ", " + 2 * k + ", " + e + ")", x.set(s, 2 * k, e), y.set(s, 2 * k, e));
            note("set(" + s + ", " + (2 * k + 1) + ", " + v + ")", x.set(s, 2 * k + 1, v), y.set(s, 2 * k + 1, v));
        }
        note("judge(" + s + ", " + n + ")", x.judge(s, n), y.judge(s, n));
    }

    /** One drawn thing that can be seen. */
    private void glance() {
        int c = anyCell();
        int i = draw(4);
        int s = draw(8);
        switch (draw(12)) {
            case 0: same("kept(" + c + ")", x.kept(c), y.kept(c)); break;
            case 1: same("reads(" + c + ", " + i + ")", x.reads(c, i), y.reads(c, i)); break;
            case 2: same("queued(" + i + ")", x.queued(i), y.queued(i)); break;
            case 3:
                int last = Math.min(60, y.status(4)) - i;
                same("log(" + last + ")", x.log(last), y.log(last));
                break;
            case 4:
                int told = Math.min(60, y.status(4)) - i;
                same("logged(" + told + ")", x.logged(told), y.logged(told));
                break;
            case 5:
                int gone = Math.min(60, y.status(5)) - i;
                same("disposed(" + gone + ")", x.disposed(gone), y.disposed(gone));
                break;
            case 6: same("holds(" + s + ")", x.holds(s), y.holds(s)); break;
            case 7:
                int what = draw(20) - 1;
                same("status(" + what + ")", x.status(what), y.status(what));
                break;
            case 8:
                int letter = draw(oneIn(3) ? 60 : 8);
                same("spelled(" + c + ", " + letter + ")", x.spelled(c, letter), y.spelled(c, letter));
                break;
            case 9: same("plain(" + c + ")", x.plain(c), y.plain(c)); break;
            default:
                int of = draw(11);
                same("cellOf(" + c + ", " + of + ")", x.cellOf(c, of), y.cellOf(c, of));
                break;
        }
    }

    private void look() {
        for (int what = -1; what <= 18; what++) {
            same("status(" + what + ")", x.status(what), y.status(what));
        }
        for (int c = 0; c < y.status(0); c++) {
            for (int what = 0; what <= 10; what++) {
                same("cellOf(" + c + ", " + what + ")", x.cellOf(c, what), y.cellOf(c, what));
            }
            same("kept(" + c + ")", x.kept(c), y.kept(c));
            for (int i = 0; i <= y.cellOf(c, 6) && x.cellOf(c, 6) >= 0; i++) {
                same("reads(" + c + ", " + i + ")", x.reads(c, i), y.reads(c, i));
            }
        }
        int queued = y.status(3);
        for (int i = 0; i <= queued; i++) {
            same("queued(" + i + ")", x.queued(i), y.queued(i));
        }
        int logged = Math.min(61, y.status(4));
        for (int i = Math.max(0, logged - 2); i <= logged; i++) {
            same("log(" + i + ")", x.log(i), y.log(i));
            same("logged(" + i + ")", x.logged(i), y.logged(i));
        }
        int disposed = y.status(5);
        for (int i = 0; i <= disposed; i++) {
            same("disposed(" + i + ")", x.disposed(i), y.disposed(i));
        }
        for (int s = -1; s <= 8; s++) {
            same("holds(" + s + ")", x.holds(s), y.holds(s));
        }
        if (oneIn(20)) {
            lookAtFormulas();
        }
    }

    private void lookAtFormulas() {
        for (int c = 0; c < y.status(0); c++) {
            int letter = 0;
            for (int i = -1; i < 800 && (i <= 0 || letter >= 0); i++) {
                letter = y.spelled(c, i);
                same("spelled(" + c + ", " + i + ")", x.spelled(c, i), letter);
            }
            same("plain(" + c + ")", x.plain(c), y.plain(c));
        }
    }
}
