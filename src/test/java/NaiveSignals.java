import java.util.ArrayList;
import java.util.Arrays;
import java.util.HashMap;
import java.util.LinkedHashSet;
import java.util.List;
import java.util.Map;
import java.util.Set;
import java.util.TreeSet;

/**
 * The document once more, written in the plainest way with the Java library and deep calls, to hold
 * PulledSignals against. It shares no code with it.
 */
final class NaiveSignals {
    private static final long FAIL = 4_000_000_000L;

    private static final class Failed extends RuntimeException {
        private static final long serialVersionUID = 1L;
        final int fail;

        Failed(int fail) {
            super(null, null, false, false);
            this.fail = fail;
        }
    }

    private static final class Faulty extends RuntimeException {
        private static final long serialVersionUID = 1L;
        final int place;

        Faulty(int place) {
            super(null, null, false, false);
            this.place = place;
        }
    }

    private interface Reading {
        int of(int cell, boolean tracked);
    }

    private static final class Node {
        final char sort;
        final String told;
        final Node[] parts;

        Node(char sort, String told, Node... parts) {
            this.sort = sort;
            this.told = told;
            this.parts = parts;
        }

        String spell() {
            switch (sort) {
                case 'n':
                case 'c':
                case '~':
                    return told;
                case 'm':
                    return "(-" + parts[0].spell() + ")";
                case '[':
                    return "[" + parts[0].spell() + "?" + parts[1].spell() + ":" + parts[2].spell() + "]";
                case '^':
                    return "^(" + parts[0].spell() + "," + parts[1].spell() + ")";
                default:
                    return "(" + parts[0].spell() + sort + parts[1].spell() + ")";
            }
        }

        int work(Reading reading) {
            switch (sort) {
                case 'n':
                    return Integer.parseInt(told);
                case 'c':
                    return reading.of(told.charAt(0) - 'a', true);
                case '~':
                    return reading.of(told.charAt(1) - 'a', false);
                case 'm':
                    return -parts[0].work(reading);
                case '[':
                    return parts[0].work(reading) != 0 ? parts[1].work(reading) : parts[2].work(reading);
                default:
                    int left = parts[0].work(reading);
                    int right = parts[1].work(reading);
                    return two(sort, left, right);
            }
        }
    }

    private static int two(char sign, int left, int right) {
        if ((sign == '/' || sign == '%') && right == 0) {
            throw new Failed(1);
        }
        switch (sign) {
            case '+': return left + right;
            case '-': return left - right;
            case '*': return left * right;
            case '/': return left / right;
            case '%': return left % right;
            case '<': return left < right ? 1 : 0;
            case '=': return left == right ? 1 : 0;
            case '>': return left > right ? 1 : 0;
            case '^': return Math.max(left, right);
            default: throw new IllegalStateException();
        }
    }

    /** Recursive descent, a method for each word of the grammar. */
    private static final class Parser {
        final String text;
        final int cells;
        int at = 0;

        Parser(String text, int cells) {
            this.text = text;
            this.cells = cells;
        }

        int peek() {
            return at < text.length() ? text.charAt(at) : -1;
        }

        void want(char sign) {
            if (peek() != sign) {
                throw new Faulty(at);
            }
            at++;
        }

        boolean oneOf(String signs) {
            return peek() >= 0 && signs.indexOf(peek()) >= 0;
        }

        Node whole() {
            Node node = comp();
            if (at < text.length()) {
                throw new Faulty(at);
            }
            return node;
        }

        Node comp() {
            Node left = sum();
            if (oneOf("<=>")) {
                char sign = text.charAt(at++);
                left = new Node(sign, null, left, sum());
            }
            return left;
        }

        Node sum() {
            Node left = term();
            while (oneOf("+-")) {
                char sign = text.charAt(at++);
                left = new Node(sign, null, left, term());
            }
            return left;
        }

        Node term() {
            Node left = part();
            while (oneOf("*/%")) {
                char sign = text.charAt(at++);
                left = new Node(sign, null, left, part());
            }
            return left;
        }

        Node part() {
            int sign = peek();
            if (sign >= '0' && sign <= '9') {
                int from = at;
                while (at - from < 3 && peek() >= '0' && peek() <= '9') {
                    at++;
                }
                return new Node('n', text.substring(from, at));
            }
            if (isLetter(sign)) {
                at++;
                return new Node('c', String.valueOf((char) sign));
            }
            if (sign == '~') {
                at++;
                if (!isLetter(peek())) {
                    throw new Faulty(at);
                }
                return new Node('~', "~" + text.charAt(at++));
            }
            if (sign == '-') {
                at++;
                return new Node('m', null, part());
            }
            if (sign == '(') {
                at++;
                Node inner = comp();
                want(')');
                return inner;
            }
            if (sign == '[') {
                at++;
                Node asked = comp();
                want('?');
                Node yes = comp();
                want(':');
                Node no = comp();
                want(']');
                return new Node('[', null, asked, yes, no);
            }
            if (sign == '^') {
                at++;
                want('(');
                Node left = comp();
                want(',');
                Node right = comp();
                want(')');
                return new Node('^', null, left, right);
            }
            throw new Faulty(at);
        }

        boolean isLetter(int sign) {
            return sign >= 'a' && sign < 'a' + cells;
        }
    }

    private static final class Cell {
        int kind;
        int owner;
        boolean gone;
        boolean busy;
        int colour;
        int version;
        int runs;
        long outcome;
        Node formula;
        Set<Integer> reads = new LinkedHashSet<>();

        Cell same() {
            Cell c = new Cell();
            c.kind = kind;
            c.owner = owner;
            c.gone = gone;
            c.colour = colour;
            c.version = version;
            c.runs = runs;
            c.outcome = outcome;
            c.formula = formula;
            c.reads = new LinkedHashSet<>(reads);
            return c;
        }
    }

    private static final class Kept {
        List<Cell> cells = new ArrayList<>();
        List<Integer> queue = new ArrayList<>();
        List<long[]> log = new ArrayList<>();
        List<Integer> disposed = new ArrayList<>();
        int batches;
        int seed = 1;

        Kept same() {
            Kept k = new Kept();
            for (Cell c : cells) {
                k.cells.add(c.same());
            }
            k.queue.addAll(queue);
            k.log.addAll(log);
            k.disposed.addAll(disposed);
            k.batches = batches;
            k.seed = seed;
            return k;
        }
    }

    private Kept now = new Kept();
    private Kept image = null;
    private String tape = "";
    private final int[] sorts = new int[8];
    private final long[][] rows = new long[8][];
    private final int[] refusals = new int[7];
    /** All runs of all calls; tells how dear the dearest call is. */
    long runsMade = 0;
    int flushesCut = 0;

    NaiveSignals() {
        Arrays.fill(sorts, -1);
    }

    private int no(int refusal) {
        refusals[-refusal]++;
        return refusal;
    }

    private long noLong(int refusal) {
        return no(refusal) - 9_000_000_000L;
    }

    private boolean isCell(int c) {
        return c >= 0 && c < now.cells.size();
    }

    private Cell at(int c) {
        return now.cells.get(c);
    }

    private boolean badShelf(int s) {
        return s < 0 || s > 7;
    }

    int row(int s, int sort, int n) {
        if (badShelf(s) || sort < 0 || sort > 4 || n < 0 || n > 40) return no(-2);
        sorts[s] = sort;
        rows[s] = new long[n];
        return 1;
    }

    int set(int s, int i, long v) {
        if (badShelf(s)) return no(-2);
        if (sorts[s] >= 10) return no(-3);
        if (sorts[s] < 0) return no(-4);
        if (i < 0 || i >= rows[s].length) return no(-2);
        long[] kept = {(byte) v, (short) v, (int) v, v, v != 0 ? 1 : 0};
        rows[s][i] = kept[sorts[s]];
        return 1;
    }

    int copy(int p, int q, int i, int j, int n) {
        if (badShelf(p) || badShelf(q)) return no(-2);
        if (sorts[p] >= 10 || sorts[q] >= 10) return no(-3);
        if (sorts[p] >= 0 && sorts[q] >= 0 && sorts[p] != sorts[q]) return no(-3);
        if (sorts[p] < 0 || sorts[q] < 0) return no(-4);
        if (i < 0 || j < 0 || n < 0) return no(-2);
        if ((long) i + n > rows[p].length || (long) j + n > rows[q].length) return no(-2);
        System.arraycopy(rows[p], i, rows[q], j, n);
        return n;
    }

    long element(int s, int i) {
        if (badShelf(s) || sorts[s] < 0 || sorts[s] >= 10 || i < 0 || i >= rows[s].length) return 0;
        return rows[s][i];
    }

    int holds(int s) {
        return badShelf(s) ? -1 : sorts[s];
    }

    int show(int s, int cell) {
        if (badShelf(s) || (cell != -1 && !isCell(cell))) return no(-2);
        sorts[s] = cell == -1 ? -1 : 10 + cell;
        return 1;
    }

    int says(int s, int kind) {
        if (badShelf(s) || kind < 0 || kind > 5) return no(-2);
        if (sorts[s] < 0) return no(-4);
        if (sorts[s] < 10) return no(-3);
        int number = sorts[s] - 10;
        Cell c = at(number);
        switch (kind) {
            case 0: return c.owner;
            case 1: return c.kind == 1 ? c.version : no(-3);
            case 2: return c.kind == 3 || c.kind == 4 ? c.reads.size() : no(-3);
            case 3: return c.kind == 3 ? c.version : no(-3);
            case 4: return c.kind == 4 ? (int) now.log.stream().filter(e -> e[0] == number).count() : no(-3);
            default: return c.kind == 5 ? owned(number).size() : no(-3);
        }
    }

    private TreeSet<Integer> owned(int owner) {
        TreeSet<Integer> found = new TreeSet<>();
        for (int i = 0; i < now.cells.size(); i++) {
            if (!at(i).gone && at(i).owner == owner) found.add(i);
        }
        return found;
    }

    int feed(int letter) {
        if (letter < 0 || letter > 255) return no(-2);
        if (tape.length() == 250) return no(-6);
        tape += (char) letter;
        return tape.length();
    }

    int wipe() {
        int n = tape.length();
        tape = "";
        return n;
    }

    private boolean badOwner(int owner) {
        if (owner == -1) return false;
        return !isCell(owner) || at(owner).gone || (at(owner).kind != 4 && at(owner).kind != 5);
    }

    private int add(int kind, int owner, int v, Node formula) {
        if (now.cells.size() == 24) return no(-6);
        Cell c = new Cell();
        c.kind = kind;
        c.owner = owner;
        c.outcome = v;
        c.formula = formula;
        c.colour = formula == null ? 0 : 2;
        now.cells.add(c);
        return now.cells.size() - 1;
    }

    int source(int v, int owner) {
        return badOwner(owner) ? no(-2) : add(1, owner, v, null);
    }

    int scope(int owner) {
        return badOwner(owner) ? no(-2) : add(5, owner, 0, null);
    }

    private Node formulaOnTape() {
        String text = tape;
        tape = "";
        return new Parser(text, now.cells.size()).whole();
    }

    int memo(int owner) {
        if (badOwner(owner)) {
            tape = "";
            return no(-2);
        }
        try {
            return add(3, owner, 0, formulaOnTape());
        } catch (Faulty f) {
            no(-2);
            return -200 - f.place;
        }
    }

    int effect(int owner) {
        if (badOwner(owner)) {
            tape = "";
            return no(-2);
        }
        try {
            int number = add(4, owner, 0, formulaOnTape());
            if (number >= 0) {
                now.queue.add(number);
                settle();
            }
            return number;
        } catch (Faulty f) {
            no(-2);
            return -200 - f.place;
        }
    }

    int reform(int cell) {
        if (!isCell(cell) || (at(cell).kind != 3 && at(cell).kind != 4)) {
            tape = "";
            return no(-2);
        }
        if (at(cell).gone) {
            tape = "";
            return no(-5);
        }
        try {
            at(cell).formula = formulaOnTape();
        } catch (Faulty f) {
            no(-2);
            return -200 - f.place;
        }
        if (at(cell).kind == 4 && at(cell).colour == 0) now.queue.add(cell);
        at(cell).colour = 2;
        List<Integer> clean = cleanEffects();
        for (int r : readers(cell)) {
            if (at(r).colour == 0) at(r).colour = 1;
        }
        Set<Integer> beyond = new TreeSet<>();
        for (int r : readers(cell)) further(r, beyond);
        for (int b : beyond) {
            if (at(b).colour == 0) at(b).colour = 1;
        }
        queueThoseNotClean(clean);
        settle();
        return 1;
    }

    private List<Integer> cleanEffects() {
        List<Integer> found = new ArrayList<>();
        for (int i = 0; i < now.cells.size(); i++) {
            if (at(i).kind == 4 && at(i).colour == 0) found.add(i);
        }
        return found;
    }

    private void queueThoseNotClean(List<Integer> wereClean) {
        for (int i : wereClean) {
            if (at(i).colour != 0) now.queue.add(i);
        }
    }

    private TreeSet<Integer> readers(int cell) {
        TreeSet<Integer> found = new TreeSet<>();
        for (int i = 0; i < now.cells.size(); i++) {
            if (at(i).reads.contains(cell)) found.add(i);
        }
        return found;
    }

    private void further(int cell, Set<Integer> found) {
        for (int r : readers(cell)) {
            if (found.add(r)) further(r, found);
        }
    }

    private void mark(int cell) {
        List<Integer> clean = cleanEffects();
        for (int r : readers(cell)) at(r).colour = 2;
        Set<Integer> beyond = new TreeSet<>();
        for (int r : readers(cell)) further(r, beyond);
        for (int b : beyond) {
            if (at(b).colour == 0) at(b).colour = 1;
        }
        queueThoseNotClean(clean);
    }

    private boolean put(int cell, int v) {
        if (at(cell).outcome == v) return false;
        at(cell).outcome = v;
        at(cell).version++;
        mark(cell);
        return true;
    }

    int write(int cell, int v) {
        if (!isCell(cell) || at(cell).kind != 1) return no(-2);
        if (at(cell).gone) return no(-5);
        put(cell, v);
        settle();
        return at(cell).version;
    }

    int begin() {
        return ++now.batches;
    }

    int end() {
        if (now.batches == 0) return no(-5);
        now.batches--;
        settle();
        return now.batches;
    }

    private void settle() {
        if (now.batches > 0) return;
        int taken = 0;
        while (!now.queue.isEmpty()) {
            if (taken == 100) {
                flushesCut++;
                return;
            }
            int e = now.queue.remove(0);
            taken++;
            refresh(e);
        }
    }

    private void refresh(int n) {
        Cell x = at(n);
        if (x.colour == 0) return;
        x.busy = true;
        if (x.colour == 1) {
            for (int y : new ArrayList<>(x.reads)) {
                if (x.colour == 2) break;
                if (at(y).kind == 3 && !at(y).busy) refresh(y);
            }
            if (x.colour == 1) x.colour = 0;
        }
        if (x.colour == 2) runOf(n);
        x.busy = false;
    }

    private void runOf(int n) {
        Cell x = at(n);
        runsMade++;
        x.reads.clear();
        if (x.kind == 4) {
            for (int o : owned(n).descendingSet()) {
                if (!at(o).gone) goes(o);
            }
        }
        long outcome;
        try {
            outcome = x.formula.work((y, tracked) -> readBy(n, y, tracked));
        } catch (Failed f) {
            outcome = FAIL + f.fail;
        }
        x.colour = 0;
        x.runs++;
        if (x.kind == 4) now.log.add(new long[] {n, outcome});
        if (outcome != x.outcome || x.version == 0) {
            x.outcome = outcome;
            x.version++;
            for (int r : readers(n)) {
                if (at(r).kind == 4 && at(r).colour == 0) now.queue.add(r);
                at(r).colour = 2;
            }
        }
    }

    private int readBy(int x, int y, boolean tracked) {
        if (at(y).gone || at(y).kind == 4 || at(y).kind == 5) throw new Failed(3);
        if (tracked && x != y) at(x).reads.add(y);
        if (at(y).busy) throw new Failed(2);
        if (at(y).kind == 3) refresh(y);
        return number(at(y).outcome);
    }

    private static int number(long outcome) {
        if (outcome >= FAIL) throw new Failed((int) (outcome - FAIL));
        return (int) outcome;
    }

    private void goes(int n) {
        for (int o : owned(n).descendingSet()) {
            goes(o);
        }
        at(n).gone = true;
        now.queue.remove((Integer) n);
        at(n).colour = 0;
        now.disposed.add(n);
        at(n).reads.clear();
        mark(n);
    }

    int dispose(int cell) {
        if (!isCell(cell)) return no(-2);
        if (at(cell).gone) return no(-5);
        int ahead = now.disposed.size();
        goes(cell);
        settle();
        return now.disposed.size() - ahead;
    }

    long read(int cell) {
        if (!isCell(cell) || at(cell).kind == 5) return noLong(-2);
        if (at(cell).gone) return noLong(-5);
        if (at(cell).kind == 3) refresh(cell);
        long outcome = at(cell).outcome;
        settle();
        return outcome;
    }

    long kept(int cell) {
        if (!isCell(cell) || at(cell).kind == 5) return noLong(-2);
        return at(cell).outcome;
    }

    private static int bits(Set<Integer> cells) {
        int bits = 0;
        for (int c : cells) bits |= 1 << c;
        return bits;
    }

    private Set<Integer> reached(int cell) {
        Set<Integer> found = new TreeSet<>();
        reach(cell, found);
        return found;
    }

    private void reach(int cell, Set<Integer> found) {
        for (int r : at(cell).reads) {
            if (found.add(r)) reach(r, found);
        }
    }

    int cellOf(int cell, int what) {
        if (!isCell(cell) || what < 0 || what > 10) return no(-2);
        Cell c = at(cell);
        switch (what) {
            case 0: return c.kind;
            case 1: return c.owner;
            case 2: return c.gone ? 1 : 0;
            case 3: return c.colour;
            case 4: return c.version;
            case 5: return c.runs;
            case 6: return c.reads.size();
            case 7: return bits(readers(cell));
            case 8: return bits(owned(cell));
            case 9: return now.queue.contains(cell) ? 1 : 0;
            default: return reached(cell).size();
        }
    }

    int reads(int cell, int i) {
        if (!isCell(cell) || i < 0 || i >= at(cell).reads.size()) return no(-2);
        return new ArrayList<>(at(cell).reads).get(i);
    }

    int spelled(int cell, int i) {
        if (!isCell(cell) || at(cell).formula == null) return no(-2);
        String s = at(cell).formula.spell();
        return i < 0 || i >= s.length() ? -1 : s.charAt(i);
    }

    private long plainOf(int cell, Integer source, int v) {
        return plainOf(cell, source, v, new HashMap<>());
    }

    /** In the map, null is told of one that is being worked out. */
    private long plainOf(int cell, Integer source, int v, Map<Integer, Long> known) {
        Cell c = at(cell);
        if (c.kind == 1) return source != null && source == cell ? v : c.outcome;
        if (known.containsKey(cell)) {
            Long had = known.get(cell);
            return had == null ? FAIL + 2 : had;
        }
        known.put(cell, null);
        long outcome;
        try {
            outcome = c.formula.work((y, tracked) -> {
                if (at(y).gone || at(y).kind == 4 || at(y).kind == 5) throw new Failed(3);
                return number(plainOf(y, source, v, known));
            });
        } catch (Failed f) {
            outcome = FAIL + f.fail;
        }
        known.put(cell, outcome);
        return outcome;
    }

    private boolean noOutcome(int cell) {
        return !isCell(cell) || at(cell).kind == 5;
    }

    private boolean noSource(int cell) {
        return !isCell(cell) || at(cell).kind != 1;
    }

    long plain(int cell) {
        return noOutcome(cell) ? noLong(-2) : plainOf(cell, null, 0);
    }

    long whatIf(int source, int v, int cell) {
        return noSource(source) || noOutcome(cell) ? noLong(-2) : plainOf(cell, source, v);
    }

    int aim(int source, int cell, int w) {
        if (noSource(source) || noOutcome(cell)) return no(-2);
        for (int v = -20; v <= 20; v++) {
            long outcome = plainOf(cell, source, v);
            if (outcome < FAIL && outcome >= w) return v;
        }
        return 100;
    }

    int news(int source, int v) {
        if (noSource(source)) return no(-2);
        Set<Integer> found = new TreeSet<>();
        for (int i = 0; i < now.cells.size(); i++) {
            if (at(i).formula != null && !at(i).gone && plainOf(i, null, 0) != plainOf(i, source, v)) found.add(i);
        }
        return bits(found);
    }

    int reaches(int x, int y) {
        if (!isCell(x) || !isCell(y)) return no(-2);
        return reached(x).contains(y) ? 1 : 0;
    }

    int colours(int colour) {
        if (colour < 0 || colour > 2) return no(-2);
        return (int) now.cells.stream().filter(c -> !c.gone && c.colour == colour).count();
    }

    int signs(int x, int y, int w) {
        int bits = 0;
        String all = "+-*/%<=>";
        for (int i = 0; i < all.length(); i++) {
            try {
                if (two(all.charAt(i), x, y) == w) bits |= 1 << i;
            } catch (Failed f) {
                continue;
            }
        }
        return bits;
    }

    int log(int i) {
        return i < 0 || i >= Math.min(60, now.log.size()) ? no(-2) : (int) now.log.get(i)[0];
    }

    long logged(int i) {
        return i < 0 || i >= Math.min(60, now.log.size()) ? noLong(-2) : now.log.get(i)[1];
    }

    int disposed(int i) {
        return i < 0 || i >= Math.min(60, now.disposed.size()) ? no(-2) : now.disposed.get(i);
    }

    int queued(int i) {
        return i < 0 || i >= now.queue.size() ? no(-2) : now.queue.get(i);
    }

    int judge(int s, int n) {
        if (badShelf(s) || n < 0 || n > 20) return no(-2);
        if (sorts[s] >= 10) return no(-3);
        if (sorts[s] < 0) return no(-4);
        if (rows[s].length < 2 * n) return no(-2);
        for (int k = 0; k < n; k++) {
            if (k >= Math.min(60, now.log.size())) return k;
            long[] e = now.log.get(k);
            if (e[0] != rows[s][2 * k] || e[1] >= FAIL || e[1] != rows[s][2 * k + 1]) return k;
        }
        return -1;
    }

    private int draw(int n) {
        now.seed = now.seed * 1103515245 + 12345;
        return (now.seed >>> 16) % n;
    }

    int days(int n) {
        if (n < 1 || n > 60) return no(-2);
        if (now.cells.isEmpty()) return no(-5);
        int wrote = 0;
        for (int i = 0; i < n; i++) {
            int c = draw(now.cells.size());
            if (at(c).kind == 1 && !at(c).gone && put(c, draw(21) - 10)) wrote++;
            settle();
        }
        return wrote;
    }

    int seed(int v) {
        int ahead = now.seed;
        now.seed = v;
        return ahead;
    }

    int image() {
        image = now.same();
        return 1;
    }

    int back() {
        if (image == null) return no(-5);
        now = image.same();
        for (int s = 0; s < 8; s++) {
            if (sorts[s] >= 10 && !isCell(sorts[s] - 10)) sorts[s] = -1;
        }
        return 1;
    }

    int status(int what) {
        switch (what) {
            case 0: return now.cells.size();
            case 1: return (int) now.cells.stream().filter(c -> c.gone).count();
            case 2: return now.batches;
            case 3: return now.queue.size();
            case 4: return now.log.size();
            case 5: return now.disposed.size();
            case 6: return now.cells.stream().mapToInt(c -> c.runs).sum();
            case 7: return tape.length();
            case 8: return now.seed;
            case 9: return (int) Arrays.stream(sorts).filter(k -> k >= 0).count();
            case 12: case 13: case 14: case 15: case 16: return refusals[what - 10];
            default: return -1;
        }
    }
}
