/**
 * Pulled signals: sources, memos, effects and scopes; what is written marks what hangs on it, and
 * nothing is worked out before it is asked for. The promises stand in DOC.md.
 */
public final class PulledSignals {
    public static final int NONE = -1;

    private static final int BAD = -2;
    private static final int OTHER = -3;
    private static final int NOTHING = -4;
    private static final int STUCK = -5;
    private static final int FULL = -6;
    private static final int REFUSALS = 5;
    private static final long LONG_REFUSAL = -9_000_000_000L;
    private static final int FAULT_BASE = -200;

    private static final int CELL = 0;
    private static final int SOURCE = 1;
    private static final int COMPUTED = 2;
    private static final int MEMO = 3;
    private static final int EFFECT = 4;
    private static final int SCOPE = 5;

    private static final int CLEAN = 0;
    private static final int CHECK = 1;
    private static final int DIRTY = 2;

    private static final int BYTES = 0;
    private static final int SHORTS = 1;
    private static final int INTS = 2;
    private static final int BOOLEANS = 4;
    private static final int FIRST_CELL_HELD = 10;

    private static final long FAILS = 4_000_000_000L;
    private static final long ZERO = FAILS + 1;
    private static final long RING = FAILS + 2;
    private static final long UNREADABLE = FAILS + 3;

    private static final int CELLS_LIMIT = 24;
    private static final int TAPE_LIMIT = 250;
    /** A sign of the tape is spelled with three signs at most: itself and two brackets. */
    private static final int TEXT_LIMIT = 3 * TAPE_LIMIT;
    private static final int DIGITS_LIMIT = 3;
    private static final int KEPT_LIMIT = 60;
    private static final int FLUSH_LIMIT = 100;
    private static final int SHELVES = 8;
    private static final int ROW_LIMIT = 40;
    private static final int JUDGE_LIMIT = 20;
    private static final int DAYS_LIMIT = 60;
    private static final int AIM_LIMIT = 20;
    private static final int AIM_NONE = 100;

    // Steps of a formula; the first eight are the signs by their bits in signs().
    private static final int PLUS = 0;
    private static final int MINUS = 1;
    private static final int TIMES = 2;
    private static final int OVER = 3;
    private static final int REST = 4;
    private static final int LESS = 5;
    private static final int EQUAL = 6;
    private static final int MORE = 7;
    private static final int SIGNS = 8;
    private static final int GREATER = 8;
    private static final int NEGATE = 9;
    private static final int NUMBER = 10;
    private static final int TRACKED = 11;
    private static final int UNTRACKED = 12;
    private static final int JUMP = 13;
    private static final int JUMP_IF_ZERO = 14;

    // Brackets that stand open while a formula is read, each by the sign that it waits for.
    private static final int WAITS_CLOSE = 20;
    private static final int WAITS_THEN = 21;
    private static final int WAITS_ELSE = 22;
    private static final int WAITS_END = 23;
    private static final int WAITS_COMMA = 24;
    private static final int WAITS_GREATER_END = 25;

    private final Web web = new Web();
    private final Web keptWeb = new Web();
    private boolean hasImage;
    private final Puller puller = new Puller(web);
    private final Beside beside = new Beside(web);
    private final FormulaReader reader = new FormulaReader();
    private final Numbers tape = new Numbers(TAPE_LIMIT);
    private final Shelf[] shelves = new Shelf[SHELVES];
    private final int[] refusals = new int[REFUSALS];

    public PulledSignals() {
        for (int s = 0; s < shelves.length; s++) {
            shelves[s] = new Shelf();
        }
    }

    // ---- shelves and rows

    public int row(int s, int sort, int n) {
        Shelf shelf = shelfAt(s);
        if (shelf == null || sort < 0 || sort > BOOLEANS || n < 0 || n > ROW_LIMIT) {
            return refuse(BAD);
        }
        shelf.holdRow(sort, n);
        return 1;
    }

    public int set(int s, int i, long v) {
        Shelf shelf = shelfAt(s);
        int refusal = rowRefusal(shelf);
        if (shelf == null || refusal != 0) {
            return refuse(refusal);
        }
        if (!shelf.hasPlaces(i, 1)) {
            return refuse(BAD);
        }
        shelf.putElement(i, v);
        return 1;
    }

    public int copy(int p, int q, int i, int j, int n) {
        Shelf from = shelfAt(p);
        Shelf to = shelfAt(q);
        if (from == null || to == null) {
            return refuse(BAD);
        }
        boolean twoSorts = from.holdsRow() && to.holdsRow() && from.holding() != to.holding();
        if (from.holdsCell() || to.holdsCell() || twoSorts) {
            return refuse(OTHER);
        }
        if (!from.holdsRow() || !to.holdsRow()) {
            return refuse(NOTHING);
        }
        if (!from.hasPlaces(i, n) || !to.hasPlaces(j, n)) {
            return refuse(BAD);
        }
        to.takeElements(j, from, i, n);
        return n;
    }

    public long element(int s, int i) {
        Shelf shelf = shelfAt(s);
        return shelf == null ? 0 : shelf.elementAt(i);
    }

    public int holds(int s) {
        Shelf shelf = shelfAt(s);
        return shelf == null ? NONE : shelf.holding();
    }

    public int show(int s, int cell) {
        Shelf shelf = shelfAt(s);
        if (shelf == null || (cell != NONE && web.cell(cell) == null)) {
            return refuse(BAD);
        }
        if (cell == NONE) {
            shelf.holdNothing();
        } else {
            shelf.holdCell(cell);
        }
        return 1;
    }

    public int says(int s, int kind) {
        Shelf shelf = shelfAt(s);
        if (shelf == null || kind < CELL || kind > SCOPE) {
            return refuse(BAD);
        }
        if (shelf.holdsRow()) {
            return refuse(OTHER);
        }
        if (!shelf.holdsCell()) {
            return refuse(NOTHING);
        }
        Cell cell = web.cell(shelf.cellHeld());
        if (cell == null || !cell.isOf(kind)) {
            return refuse(OTHER);
        }
        return saidBy(cell, shelf.cellHeld(), kind);
    }

    private int saidBy(Cell cell, int number, int kind) {
        switch (kind) {
            case SOURCE:
            case MEMO:
                return (int) cell.version;
            case COMPUTED:
                return cell.reads.size();
            case EFFECT:
                // Each run of an effect is counted in the log, and nothing else is.
                return cell.runs;
            case SCOPE:
                return Integer.bitCount(web.ownedBy(number));
            default:
                return cell.owner;
        }
    }

    // ---- the tape

    public int feed(int letter) {
        if (letter < 0 || letter > 255) {
            return refuse(BAD);
        }
        if (tape.size() >= TAPE_LIMIT) {
            return refuse(FULL);
        }
        tape.add(letter);
        return tape.size();
    }

    public int wipe() {
        int ahead = tape.size();
        tape.clear();
        return ahead;
    }

    // ---- cells come, change and go

    public int source(int v, int owner) {
        return newCell(SOURCE, owner, v);
    }

    public int scope(int owner) {
        return newCell(SCOPE, owner, 0);
    }

    private int newCell(int kind, int owner, int v) {
        if (!web.mayOwn(owner)) {
            return refuse(BAD);
        }
        if (web.isFull()) {
            return refuse(FULL);
        }
        return web.addCell(kind, owner, v, null);
    }

    public int memo(int owner) {
        int number = newComputed(MEMO, owner);
        tape.clear();
        return number;
    }

    public int effect(int owner) {
        int number = newComputed(EFFECT, owner);
        tape.clear();
        if (number >= 0) {
            web.queue.add(number);
            puller.flushUnlessBatch();
        }
        return number;
    }

    private int newComputed(int kind, int owner) {
        if (!web.mayOwn(owner)) {
            return refuse(BAD);
        }
        Formula formula = reader.take(tape, web.count());
        if (formula == null) {
            return refuseFault();
        }
        if (web.isFull()) {
            return refuse(FULL);
        }
        return web.addCell(kind, owner, 0, formula);
    }

    public int reform(int cell) {
        int answer = anotherFormula(cell);
        tape.clear();
        if (answer == 1) {
            puller.flushUnlessBatch();
        }
        return answer;
    }

    private int anotherFormula(int number) {
        Cell cell = web.cell(number);
        if (cell == null || !cell.isOf(COMPUTED)) {
            return refuse(BAD);
        }
        if (cell.gone) {
            return refuse(STUCK);
        }
        Formula formula = reader.take(tape, web.count());
        if (formula == null) {
            return refuseFault();
        }
        puller.giveFormula(number, formula);
        return 1;
    }

    public int write(int cell, int v) {
        Cell source = web.cell(cell);
        if (source == null || source.kind != SOURCE) {
            return refuse(BAD);
        }
        if (source.gone) {
            return refuse(STUCK);
        }
        puller.writeTo(cell, v);
        puller.flushUnlessBatch();
        return (int) source.version;
    }

    public int begin() {
        web.batches++;
        return web.batches;
    }

    public int end() {
        if (web.batches <= 0) {
            return refuse(STUCK);
        }
        web.batches--;
        puller.flushUnlessBatch();
        return web.batches;
    }

    public int dispose(int cell) {
        Cell disposed = web.cell(cell);
        if (disposed == null) {
            return refuse(BAD);
        }
        if (disposed.gone) {
            return refuse(STUCK);
        }
        int ahead = web.goneCount();
        puller.disposeOf(cell);
        puller.flushUnlessBatch();
        return web.goneCount() - ahead;
    }

    // ---- what cells are

    public long read(int cell) {
        Cell asked = web.cell(cell);
        if (asked == null || asked.kind == SCOPE) {
            return refuseLong(BAD);
        }
        if (asked.gone) {
            return refuseLong(STUCK);
        }
        if (asked.kind == MEMO) {
            puller.pull(cell);
        }
        long outcome = asked.outcome;
        puller.flushUnlessBatch();
        return outcome;
    }

    public long kept(int cell) {
        Cell asked = web.cell(cell);
        if (asked == null || asked.kind == SCOPE) {
            return refuseLong(BAD);
        }
        return asked.outcome;
    }

    public int cellOf(int cell, int what) {
        Cell asked = web.cell(cell);
        if (asked == null) {
            return refuse(BAD);
        }
        switch (what) {
            case 0:
                return asked.kind;
            case 1:
                return asked.owner;
            case 2:
                return asked.gone ? 1 : 0;
            case 3:
                return asked.colour;
            case 4:
                return (int) asked.version;
            case 5:
                return asked.runs;
            case 6:
                return asked.reads.size();
            case 7:
                return web.readersOf(cell);
            case 8:
                return web.ownedBy(cell);
            case 9:
                return web.queue.has(cell) ? 1 : 0;
            case 10:
                return Integer.bitCount(web.reachedFrom(cell));
            default:
                return refuse(BAD);
        }
    }

    public int reads(int cell, int i) {
        Cell asked = web.cell(cell);
        if (asked == null || i < 0 || i >= asked.reads.size()) {
            return refuse(BAD);
        }
        return asked.reads.at(i);
    }

    public int spelled(int cell, int i) {
        Cell asked = web.cell(cell);
        if (asked == null || asked.formula == null) {
            return refuse(BAD);
        }
        return asked.formula.letterAt(i);
    }

    // ---- what comes of it

    public long plain(int cell) {
        if (!hasOutcome(cell)) {
            return refuseLong(BAD);
        }
        return beside.outcomeNow(cell);
    }

    public long whatIf(int source, int v, int cell) {
        if (!isSource(source) || !hasOutcome(cell)) {
            return refuseLong(BAD);
        }
        return beside.outcomeIf(source, v, cell);
    }

    public int aim(int source, int cell, int w) {
        if (!isSource(source) || !hasOutcome(cell)) {
            return refuse(BAD);
        }
        for (int v = -AIM_LIMIT; v <= AIM_LIMIT; v++) {
            long outcome = beside.outcomeIf(source, v, cell);
            if (!isFail(outcome) && outcome >= w) {
                return v;
            }
        }
        return AIM_NONE;
    }

    public int news(int source, int v) {
        if (!isSource(source)) {
            return refuse(BAD);
        }
        int bits = 0;
        for (int i = 0; i < web.count(); i++) {
            Cell cell = web.cell(i);
            if (cell != null && !cell.gone && cell.isOf(COMPUTED)
                    && beside.outcomeNow(i) != beside.outcomeIf(source, v, i)) {
                bits |= 1 << i;
            }
        }
        return bits;
    }

    public int reaches(int x, int y) {
        if (web.cell(x) == null || web.cell(y) == null) {
            return refuse(BAD);
        }
        return web.reachedFrom(x) >> y & 1;
    }

    public int colours(int colour) {
        if (colour < CLEAN || colour > DIRTY) {
            return refuse(BAD);
        }
        return web.colouredCount(colour);
    }

    public int signs(int x, int y, int w) {
        int bits = 0;
        for (int sign = 0; sign < SIGNS; sign++) {
            boolean none = y == 0 && (sign == OVER || sign == REST);
            if (!none && joined(sign, x, y) == w) {
                bits |= 1 << sign;
            }
        }
        return bits;
    }

    // ---- the log, the disposed, the queue

    public int log(int i) {
        if (!web.hasLogged(i)) {
            return refuse(BAD);
        }
        return web.logCells.at(i);
    }

    public long logged(int i) {
        if (!web.hasLogged(i)) {
            return refuseLong(BAD);
        }
        return web.outcomeLogged(i);
    }

    public int disposed(int i) {
        if (i < 0 || i >= web.disposed.size()) {
            return refuse(BAD);
        }
        return web.disposed.at(i);
    }

    public int queued(int i) {
        if (i < 0 || i >= web.queue.size()) {
            return refuse(BAD);
        }
        return web.queue.at(i);
    }

    public int judge(int s, int n) {
        Shelf shelf = shelfAt(s);
        if (shelf == null || n < 0 || n > JUDGE_LIMIT) {
            return refuse(BAD);
        }
        int refusal = rowRefusal(shelf);
        if (refusal != 0) {
            return refuse(refusal);
        }
        if (!shelf.hasPlaces(0, 2 * n)) {
            return refuse(BAD);
        }
        for (int i = 0; i < n; i++) {
            if (!web.logSays(i, shelf.elementAt(2 * i), shelf.elementAt(2 * i + 1))) {
                return i;
            }
        }
        return NONE;
    }

    // ---- draws, images, status

    public int days(int n) {
        if (n < 1 || n > DAYS_LIMIT) {
            return refuse(BAD);
        }
        if (web.count() == 0) {
            return refuse(STUCK);
        }
        int wrote = 0;
        for (int day = 0; day < n; day++) {
            int number = web.draw(web.count());
            Cell drawn = web.cell(number);
            if (drawn != null && drawn.kind == SOURCE && !drawn.gone
                    && puller.writeTo(number, web.draw(21) - 10)) {
                wrote++;
            }
            puller.flushUnlessBatch();
        }
        return wrote;
    }

    public int seed(int v) {
        int ahead = web.seed;
        web.seed = v;
        return ahead;
    }

    public int image() {
        keptWeb.takeFrom(web);
        hasImage = true;
        return 1;
    }

    public int back() {
        if (!hasImage) {
            return refuse(STUCK);
        }
        web.takeFrom(keptWeb);
        for (int s = 0; s < shelves.length; s++) {
            Shelf shelf = shelves[s];
            if (shelf != null && shelf.holdsCell() && web.cell(shelf.cellHeld()) == null) {
                shelf.holdNothing();
            }
        }
        return 1;
    }

    public int status(int what) {
        switch (what) {
            case 0:
                return web.count();
            case 1:
                return web.goneCount();
            case 2:
                return web.batches;
            case 3:
                return web.queue.size();
            case 4:
                return web.logCells.counted();
            case 5:
                return web.disposed.counted();
            case 6:
                return web.allRuns();
            case 7:
                return tape.size();
            case 8:
                return web.seed;
            case 9:
                return heldCount();
            default:
                return refusalCount(what - 12);
        }
    }

    private int heldCount() {
        int held = 0;
        for (int s = 0; s < shelves.length; s++) {
            if (holds(s) != NONE) {
                held++;
            }
        }
        return held;
    }

    private int refusalCount(int i) {
        return i >= 0 && i < refusals.length ? refusals[i] : NONE;
    }

    // ---- refusals and what is tested ahead of them

    private int refuse(int refusal) {
        int i = BAD - refusal;
        if (i >= 0 && i < refusals.length) {
            refusals[i]++;
        }
        return refusal;
    }

    private long refuseLong(int refusal) {
        return LONG_REFUSAL + refuse(refusal);
    }

    private int refuseFault() {
        refuse(BAD);
        return FAULT_BASE - reader.fault();
    }

    private Shelf shelfAt(int s) {
        return s >= 0 && s < shelves.length ? shelves[s] : null;
    }

    /** Why a row can't be had of a shelf; 0 if it can. */
    private static int rowRefusal(Shelf shelf) {
        if (shelf == null) {
            return BAD;
        }
        if (shelf.holdsCell()) {
            return OTHER;
        }
        return shelf.holdsRow() ? 0 : NOTHING;
    }

    private boolean isSource(int number) {
        Cell cell = web.cell(number);
        return cell != null && cell.kind == SOURCE;
    }

    private boolean hasOutcome(int number) {
        Cell cell = web.cell(number);
        return cell != null && cell.kind != SCOPE;
    }

    private static boolean isFail(long outcome) {
        return outcome > FAILS;
    }

    /** Two numbers joined by a sign; a division by 0 is kept away by the caller. */
    private static int joined(int sign, int left, int right) {
        switch (sign) {
            case PLUS:
                return left + right;
            case MINUS:
                return left - right;
            case TIMES:
                return left * right;
            case OVER:
                return right == 0 ? 0 : left / right;
            case REST:
                return right == 0 ? 0 : left % right;
            case LESS:
                return left < right ? 1 : 0;
            case EQUAL:
                return left == right ? 1 : 0;
            case MORE:
                return left > right ? 1 : 0;
            default:
                return left > right ? left : right;
        }
    }

    /** Numbers in a row with a fixed room; what finds no room is only counted. */
    private static final class Numbers {
        private final int[] items;
        private int size;
        private int counted;

        Numbers(int room) {
            items = new int[room < 0 ? 0 : room];
        }

        int size() {
            return size;
        }

        int counted() {
            return counted;
        }

        int at(int i) {
            return i >= 0 && i < size && i < items.length ? items[i] : NONE;
        }

        int last() {
            return size > 0 && size <= items.length ? items[size - 1] : NONE;
        }

        /** The last one, which goes. */
        int take() {
            if (size <= 0 || size > items.length) {
                return NONE;
            }
            size--;
            return items[size];
        }

        boolean has(int number) {
            for (int i = 0; i < size && i < items.length; i++) {
                if (items[i] == number) {
                    return true;
                }
            }
            return false;
        }

        void add(int number) {
            counted++;
            if (size >= 0 && size < items.length) {
                items[size] = number;
                size++;
            }
        }

        void put(int i, int number) {
            if (i >= 0 && i < size && i < items.length) {
                items[i] = number;
            }
        }

        void insert(int i, int number) {
            if (i < 0 || i > size || size >= items.length) {
                return;
            }
            for (int k = size; k > i; k--) {
                items[k] = items[k - 1];
            }
            items[i] = number;
            size++;
        }

        void dropLast() {
            if (size > 0) {
                size--;
            }
        }

        void drop(int number) {
            int left = 0;
            for (int i = 0; i < size && i < items.length; i++) {
                if (items[i] != number) {
                    items[left] = items[i];
                    left++;
                }
            }
            size = left;
        }

        void clear() {
            size = 0;
            counted = 0;
        }

        void takeFrom(Numbers other) {
            clear();
            for (int i = 0; i < other.size && i < other.items.length && i < items.length; i++) {
                items[i] = other.items[i];
                size++;
            }
            counted = other.counted;
        }

        Numbers trimmed() {
            Numbers same = new Numbers(size);
            same.takeFrom(this);
            return same;
        }
    }

    /** A shelf; what it holds is kept as the number that holds() answers. */
    private static final class Shelf {
        private final long[] elements = new long[ROW_LIMIT];
        private int size;
        private int holding = NONE;

        int holding() {
            return holding;
        }

        boolean holdsRow() {
            return holding >= BYTES && holding <= BOOLEANS;
        }

        boolean holdsCell() {
            return holding >= FIRST_CELL_HELD;
        }

        int cellHeld() {
            return holding - FIRST_CELL_HELD;
        }

        void holdNothing() {
            holding = NONE;
            size = 0;
        }

        void holdCell(int number) {
            holding = FIRST_CELL_HELD + number;
            size = 0;
        }

        void holdRow(int sort, int n) {
            holding = sort;
            size = n;
            for (int i = 0; i < elements.length; i++) {
                elements[i] = 0;
            }
        }

        boolean hasPlaces(int i, int n) {
            return i >= 0 && n >= 0 && i <= size && n <= size - i;
        }

        long elementAt(int i) {
            return i >= 0 && i < size && i < elements.length ? elements[i] : 0;
        }

        void putElement(int i, long v) {
            if (i >= 0 && i < size && i < elements.length) {
                elements[i] = lowestBits(v);
            }
        }

        private long lowestBits(long v) {
            switch (holding) {
                case BYTES:
                    return (byte) v;
                case SHORTS:
                    return (short) v;
                case INTS:
                    return (int) v;
                case BOOLEANS:
                    return v != 0 ? 1 : 0;
                default:
                    return v;
            }
        }

        /** Goes from the end that the other row can't overwrite ahead of its being read. */
        void takeElements(int j, Shelf from, int i, int n) {
            if (j <= i) {
                for (int k = 0; k < n; k++) {
                    putElement(j + k, from.elementAt(i + k));
                }
            } else {
                for (int k = n - 1; k >= 0; k--) {
                    putElement(j + k, from.elementAt(i + k));
                }
            }
        }
    }

    /**
     * A formula as steps over a stack. It stops at each letter and goes on with what was read, so
     * that formulas within formulas need no deep calls.
     */
    private static final class Formula {
        private final Numbers steps;
        private final Numbers details;
        private final Numbers text;
        private final Numbers stack;
        private int place;
        private long fail;
        private int asked;
        private boolean tracked;

        Formula(Numbers steps, Numbers details, Numbers text, int deepest) {
            this.steps = steps.trimmed();
            this.details = details.trimmed();
            this.text = text.trimmed();
            this.stack = new Numbers(deepest);
        }

        int letterAt(int i) {
            return text.at(i);
        }

        int asked() {
            return asked;
        }

        boolean isTracked() {
            return tracked;
        }

        void start() {
            place = 0;
            fail = 0;
            stack.clear();
        }

        /** Whether a letter is asked for; if not, the outcome stands. */
        boolean goesOn() {
            for (int i = 0; i < TAPE_LIMIT && place < steps.size() && fail == 0; i++) {
                int step = steps.at(place);
                int detail = details.at(place);
                place++;
                if (step == TRACKED || step == UNTRACKED) {
                    asked = detail;
                    tracked = step == TRACKED;
                    return true;
                }
                takeStep(step, detail);
            }
            return false;
        }

        void give(long outcome) {
            if (isFail(outcome)) {
                fail = outcome;
            } else {
                stack.add((int) outcome);
            }
        }

        long outcome() {
            return fail != 0 ? fail : stack.last();
        }

        private void takeStep(int step, int detail) {
            switch (step) {
                case NUMBER:
                    stack.add(detail);
                    break;
                case JUMP:
                    place = detail;
                    break;
                case JUMP_IF_ZERO:
                    if (stack.take() == 0) {
                        place = detail;
                    }
                    break;
                case NEGATE:
                    stack.add(-stack.take());
                    break;
                default:
                    join(step);
                    break;
            }
        }

        private void join(int sign) {
            int right = stack.take();
            int left = stack.take();
            if (right == 0 && (sign == OVER || sign == REST)) {
                fail = ZERO;
            } else {
                stack.add(joined(sign, left, right));
            }
        }
    }

    /**
     * Reads a formula from the tape, sign by sign, and keeps what stands open on rows of its own:
     * a tape of 250 brackets would be too deep for calls within calls.
     */
    private static final class FormulaReader {
        private final Numbers steps = new Numbers(TAPE_LIMIT);
        private final Numbers details = new Numbers(TAPE_LIMIT);
        private final Numbers text = new Numbers(TEXT_LIMIT);
        /** Signs and brackets that wait for what follows them. */
        private final Numbers open = new Numbers(TAPE_LIMIT);
        /** Where in the text each of them begins. */
        private final Numbers openText = new Numbers(TAPE_LIMIT);
        /** The jump of each of them that still lacks its aim. */
        private final Numbers openJump = new Numbers(TAPE_LIMIT);
        /** Where in the text each part begins that waits to be joined. */
        private final Numbers partText = new Numbers(TAPE_LIMIT);
        private int deepest;
        private int cells;
        private int at;
        private int fault;
        private boolean wantsPart;
        /** A part was read to its end, and what is open right ahead of it doesn't know yet. */
        private boolean partStands;

        int fault() {
            return fault;
        }

        /** The formula; null, if it has a fault. */
        Formula take(Numbers tape, int cellCount) {
            start(cellCount);
            int size = tape.size();
            for (int i = 0; i < size && at < size && fault == NONE; i++) {
                if (wantsPart) {
                    readPart(tape);
                } else {
                    readSign(tape.at(at));
                }
                if (partStands) {
                    endPart();
                }
            }
            if (fault != NONE) {
                return null;
            }
            gather(1);
            if (wantsPart || open.size() > 0) {
                fault = size;
                return null;
            }
            return new Formula(steps, details, text, deepest);
        }

        private void start(int cellCount) {
            steps.clear();
            details.clear();
            text.clear();
            open.clear();
            openText.clear();
            openJump.clear();
            partText.clear();
            deepest = 0;
            cells = cellCount;
            at = 0;
            fault = NONE;
            wantsPart = true;
            partStands = false;
        }

        private void readPart(Numbers tape) {
            int sign = tape.at(at);
            switch (sign) {
                case '-':
                    openUp(NEGATE);
                    text.add('(');
                    text.add('-');
                    at++;
                    break;
                case '(':
                    openUp(WAITS_CLOSE);
                    at++;
                    break;
                case '[':
                    openUp(WAITS_THEN);
                    text.add('[');
                    at++;
                    break;
                case '^':
                    readGreater(tape);
                    break;
                case '~':
                    readUntracked(tape);
                    break;
                default:
                    readPlainPart(tape, sign);
                    break;
            }
        }

        private void readGreater(Numbers tape) {
            if (tape.at(at + 1) != '(') {
                fault = at + 1;
                return;
            }
            openUp(WAITS_COMMA);
            text.add('^');
            text.add('(');
            at += 2;
        }

        private void readUntracked(Numbers tape) {
            int letter = tape.at(at + 1);
            if (!isLetter(letter)) {
                fault = at + 1;
                return;
            }
            partText.add(text.size());
            text.add('~');
            text.add(letter);
            at += 2;
            addStep(UNTRACKED, letter - 'a');
            partStands = true;
        }

        private void readPlainPart(Numbers tape, int sign) {
            if (isLetter(sign)) {
                partText.add(text.size());
                text.add(sign);
                at++;
                addStep(TRACKED, sign - 'a');
                partStands = true;
            } else if (isDigit(sign)) {
                partText.add(text.size());
                addStep(NUMBER, readNumber(tape));
                partStands = true;
            } else {
                fault = at;
            }
        }

        private int readNumber(Numbers tape) {
            int value = 0;
            for (int i = 0; i < DIGITS_LIMIT && isDigit(tape.at(at)); i++) {
                value = value * 10 + tape.at(at) - '0';
                text.add(tape.at(at));
                at++;
            }
            return value;
        }

        private boolean isLetter(int sign) {
            return sign >= 'a' && sign < 'a' + cells;
        }

        private static boolean isDigit(int sign) {
            return sign >= '0' && sign <= '9';
        }

        /** The minuses right ahead of a part take it, and a sign is wanted. */
        private void endPart() {
            partStands = false;
            deepest = Math.max(deepest, partText.size());
            for (int i = 0; i < TAPE_LIMIT && open.last() == NEGATE; i++) {
                addStep(NEGATE, 0);
                text.add(')');
                closeWithPart();
            }
            wantsPart = false;
        }

        private void readSign(int sign) {
            int joining = joiningSign(sign);
            if (joining == NONE) {
                gather(1);
                readBracketSign(sign);
                return;
            }
            int level = level(joining);
            gather(Math.max(level, 2));
            if (level == 1 && level(open.last()) == 1) {
                fault = at;
                return;
            }
            openUp(joining);
            text.add(sign);
            at++;
            wantsPart = true;
        }

        /** Joins what stands open by signs of a level, or of a higher one. */
        private void gather(int level) {
            for (int i = 0; i < TAPE_LIMIT && level(open.last()) >= level && !wantsPart; i++) {
                addStep(open.last(), 0);
                closeDown();
                partText.dropLast();
                text.insert(partText.last(), '(');
                text.add(')');
            }
        }

        private void readBracketSign(int sign) {
            int bracket = open.last();
            if (bracket == NONE || sign != awaited(bracket)) {
                fault = at;
                return;
            }
            at++;
            if (bracket != WAITS_CLOSE) {
                text.add(sign);
            }
            switch (bracket) {
                case WAITS_THEN:
                    choose(JUMP_IF_ZERO, WAITS_ELSE);
                    break;
                case WAITS_ELSE:
                    choose(JUMP, WAITS_END);
                    break;
                case WAITS_END:
                    details.put(openJump.last(), steps.size());
                    closeWithPart();
                    partStands = true;
                    break;
                case WAITS_COMMA:
                    open.put(open.size() - 1, WAITS_GREATER_END);
                    wantsPart = true;
                    break;
                case WAITS_GREATER_END:
                    addStep(GREATER, 0);
                    partText.dropLast();
                    closeWithPart();
                    partStands = true;
                    break;
                default:
                    closeDown();
                    partStands = true;
                    break;
            }
        }

        /** The jump ahead, if there is one, leads right behind the new one. */
        private void choose(int jump, int nextBracket) {
            partText.dropLast();
            addStep(jump, 0);
            details.put(openJump.last(), steps.size());
            openJump.put(openJump.size() - 1, steps.size() - 1);
            open.put(open.size() - 1, nextBracket);
            wantsPart = true;
        }

        private void openUp(int what) {
            open.add(what);
            openText.add(text.size());
            openJump.add(NONE);
        }

        private void closeDown() {
            open.dropLast();
            openText.dropLast();
            openJump.dropLast();
        }

        /** What was open becomes one part, whose text begins where it was opened. */
        private void closeWithPart() {
            partText.put(partText.size() - 1, openText.last());
            closeDown();
        }

        private void addStep(int step, int detail) {
            steps.add(step);
            details.add(detail);
        }

        private static int joiningSign(int sign) {
            switch (sign) {
                case '+':
                    return PLUS;
                case '-':
                    return MINUS;
                case '*':
                    return TIMES;
                case '/':
                    return OVER;
                case '%':
                    return REST;
                case '<':
                    return LESS;
                case '=':
                    return EQUAL;
                case '>':
                    return MORE;
                default:
                    return NONE;
            }
        }

        /** How tightly a sign joins; 0 of what joins nothing. */
        private static int level(int sign) {
            switch (sign) {
                case TIMES:
                case OVER:
                case REST:
                    return 3;
                case PLUS:
                case MINUS:
                    return 2;
                case LESS:
                case EQUAL:
                case MORE:
                    return 1;
                default:
                    return 0;
            }
        }

        private static int awaited(int bracket) {
            switch (bracket) {
                case WAITS_THEN:
                    return '?';
                case WAITS_ELSE:
                    return ':';
                case WAITS_END:
                    return ']';
                case WAITS_COMMA:
                    return ',';
                default:
                    return ')';
            }
        }
    }

    /** A cell of any kind; a source and a scope leave unused what is of the computed alone. */
    private static final class Cell {
        private int kind;
        private int owner;
        private boolean gone;
        private boolean busy;
        private int colour;
        /** Rings can make more versions than an int tells, and only the first may be 0. */
        private long version;
        private int runs;
        private long outcome;
        private Formula formula;
        private final Numbers reads = new Numbers(CELLS_LIMIT);

        void become(int newKind, int newOwner, long newOutcome, Formula newFormula) {
            kind = newKind;
            owner = newOwner;
            gone = false;
            busy = false;
            colour = newFormula == null ? CLEAN : DIRTY;
            version = 0;
            runs = 0;
            outcome = newOutcome;
            formula = newFormula;
            reads.clear();
        }

        void takeFrom(Cell other) {
            kind = other.kind;
            owner = other.owner;
            gone = other.gone;
            busy = false;
            colour = other.colour;
            version = other.version;
            runs = other.runs;
            outcome = other.outcome;
            formula = other.formula;
            reads.takeFrom(other.reads);
        }

        boolean isOf(int asked) {
            return asked == CELL || asked == kind
                    || (asked == COMPUTED && (kind == MEMO || kind == EFFECT));
        }

        boolean isReadable() {
            return !gone && (kind == SOURCE || kind == MEMO);
        }
    }

    /** All that an image keeps: cells, queue, log, disposed, batches, seed. */
    private static final class Web {
        private final Cell[] cells = new Cell[CELLS_LIMIT];
        /** Of each cell its readers, as bits: the reads once more, from their other end. */
        private final int[] readers = new int[CELLS_LIMIT];
        private int count;
        private final Numbers queue = new Numbers(CELLS_LIMIT);
        private final Numbers logCells = new Numbers(KEPT_LIMIT);
        private final long[] logOutcomes = new long[KEPT_LIMIT];
        private final Numbers disposed = new Numbers(KEPT_LIMIT);
        private int batches;
        private int seed = 1;

        int count() {
            return count;
        }

        boolean isFull() {
            return count >= cells.length;
        }

        /** The cell of a number; null, if there is none. */
        Cell cell(int number) {
            return number >= 0 && number < count && number < cells.length ? cells[number] : null;
        }

        boolean mayOwn(int owner) {
            Cell cell = cell(owner);
            return owner == NONE
                    || (cell != null && !cell.gone && (cell.kind == SCOPE || cell.kind == EFFECT));
        }

        /** The number of the new cell; the caller has seen that there is room. */
        int addCell(int kind, int owner, long outcome, Formula formula) {
            if (count < 0 || count >= cells.length) {
                return NONE;
            }
            Cell cell = roomFor(count);
            if (cell != null) {
                cell.become(kind, owner, outcome, formula);
            }
            count++;
            return count - 1;
        }

        /** A cell that an earlier back() left behind is used again. */
        private Cell roomFor(int number) {
            if (number < 0 || number >= cells.length) {
                return null;
            }
            if (cells[number] == null) {
                cells[number] = new Cell();
            }
            return cells[number];
        }

        void takeFrom(Web other) {
            for (int i = 0; i < other.count && i < cells.length; i++) {
                Cell cell = roomFor(i);
                Cell same = other.cell(i);
                if (cell != null && same != null) {
                    cell.takeFrom(same);
                }
            }
            for (int i = 0; i < readers.length && i < other.readers.length; i++) {
                readers[i] = other.readers[i];
            }
            count = other.count;
            queue.takeFrom(other.queue);
            logCells.takeFrom(other.logCells);
            for (int i = 0; i < logOutcomes.length && i < other.logOutcomes.length; i++) {
                logOutcomes[i] = other.logOutcomes[i];
            }
            disposed.takeFrom(other.disposed);
            batches = other.batches;
            seed = other.seed;
        }

        int ownedBy(int owner) {
            int bits = 0;
            for (int i = 0; i < count && i < cells.length; i++) {
                Cell cell = cells[i];
                if (cell != null && !cell.gone && cell.owner == owner) {
                    bits |= 1 << i;
                }
            }
            return bits;
        }

        void addRead(int reader, int number) {
            Cell cell = cell(reader);
            if (cell == null || number < 0 || number >= readers.length
                    || (readers[number] >> reader & 1) != 0) {
                return;
            }
            cell.reads.add(number);
            readers[number] |= 1 << reader;
        }

        void clearReads(int reader) {
            Cell cell = cell(reader);
            if (cell == null) {
                return;
            }
            for (int i = 0; i < cell.reads.size(); i++) {
                int number = cell.reads.at(i);
                if (number >= 0 && number < readers.length) {
                    readers[number] &= ~(1 << reader);
                }
            }
            cell.reads.clear();
        }

        int readersOf(int number) {
            return number >= 0 && number < readers.length ? readers[number] : 0;
        }

        /** Readers of the readers of a cell, readers of those, and so on. */
        int furtherReadersOf(int number) {
            int found = 0;
            int edge = readersOf(number);
            for (int round = 0; round <= CELLS_LIMIT && edge != 0; round++) {
                int next = 0;
                for (int i = 0; i < readers.length; i++) {
                    if ((edge >> i & 1) != 0) {
                        next |= readers[i];
                    }
                }
                edge = next & ~found;
                found |= next;
            }
            return found;
        }

        /** Reads of a cell, or theirs, and so on. */
        int reachedFrom(int number) {
            int found = 0;
            int edge = 1 << number;
            for (int round = 0; round <= CELLS_LIMIT && edge != 0; round++) {
                int next = 0;
                for (int i = 0; i < readers.length; i++) {
                    if ((readers[i] & edge) != 0) {
                        next |= 1 << i;
                    }
                }
                edge = next & ~found;
                found |= next;
            }
            return found;
        }

        int goneCount() {
            int gone = 0;
            for (int i = 0; i < count && i < cells.length; i++) {
                Cell cell = cells[i];
                if (cell != null && cell.gone) {
                    gone++;
                }
            }
            return gone;
        }

        int colouredCount(int colour) {
            int coloured = 0;
            for (int i = 0; i < count && i < cells.length; i++) {
                Cell cell = cells[i];
                if (cell != null && !cell.gone && cell.colour == colour) {
                    coloured++;
                }
            }
            return coloured;
        }

        int allRuns() {
            int runs = 0;
            for (int i = 0; i < count && i < cells.length; i++) {
                Cell cell = cells[i];
                if (cell != null) {
                    runs += cell.runs;
                }
            }
            return runs;
        }

        void addToLog(int number, long outcome) {
            int i = logCells.size();
            if (i >= 0 && i < logOutcomes.length) {
                logOutcomes[i] = outcome;
            }
            logCells.add(number);
        }

        boolean hasLogged(int i) {
            return i >= 0 && i < logCells.size();
        }

        long outcomeLogged(int i) {
            return i >= 0 && i < logOutcomes.length ? logOutcomes[i] : 0;
        }

        boolean logSays(int i, long number, long outcome) {
            return hasLogged(i) && logCells.at(i) == number && outcomeLogged(i) == outcome
                    && !isFail(outcome);
        }

        int draw(int n) {
            seed = seed * 1103515245 + 12345;
            return n <= 0 ? 0 : (seed >>> 16) % n;
        }
    }

    /** Pushes marks from what changes, and pulls outcomes by what is asked for. */
    private static final class Puller {
        private final Web web;

        Puller(Web web) {
            this.web = web;
        }

        void pull(int number) {
            refresh(number, 0);
        }

        void flushUnlessBatch() {
            if (web.batches > 0) {
                return;
            }
            for (int taken = 0; taken < FLUSH_LIMIT && web.queue.size() > 0; taken++) {
                int first = web.queue.at(0);
                web.queue.drop(first);
                refresh(first, 0);
            }
        }

        /** Whether it had another number. */
        boolean writeTo(int number, int v) {
            Cell source = web.cell(number);
            if (source == null || source.outcome == v) {
                return false;
            }
            source.outcome = v;
            source.version++;
            colour(web.readersOf(number), web.furtherReadersOf(number));
            return true;
        }

        void giveFormula(int number, Formula formula) {
            Cell cell = web.cell(number);
            if (cell == null) {
                return;
            }
            cell.formula = formula;
            colour(1 << number, 0);
            colour(0, web.readersOf(number) | web.furtherReadersOf(number));
        }

        void disposeOf(int number) {
            disposeOwned(number, 0);
            letGo(number);
        }

        private void disposeOwned(int owner, int depth) {
            int owned = depth > CELLS_LIMIT ? 0 : web.ownedBy(owner);
            for (int i = CELLS_LIMIT - 1; i >= 0 && owned != 0; i--) {
                if ((owned >> i & 1) != 0) {
                    disposeOwned(i, depth + 1);
                    letGo(i);
                }
            }
        }

        private void letGo(int number) {
            Cell cell = web.cell(number);
            if (cell == null) {
                return;
            }
            cell.gone = true;
            cell.colour = CLEAN;
            web.clearReads(number);
            web.queue.drop(number);
            web.disposed.add(number);
            colour(web.readersOf(number), web.furtherReadersOf(number));
        }

        /** Those of the first bits are dirty; those of the second to be checked, if clean. */
        private void colour(int dirty, int checked) {
            for (int i = 0; (dirty | checked) >>> i != 0 && i < web.count(); i++) {
                Cell cell = web.cell(i);
                if (cell == null) {
                    continue;
                }
                boolean wasClean = cell.colour == CLEAN;
                if ((dirty >> i & 1) != 0) {
                    cell.colour = DIRTY;
                } else if (wasClean && (checked >> i & 1) != 0) {
                    cell.colour = CHECK;
                }
                if (cell.kind == EFFECT && wasClean && cell.colour != CLEAN) {
                    web.queue.add(i);
                }
            }
        }

        private void refresh(int number, int depth) {
            Cell cell = web.cell(number);
            if (cell == null || cell.busy || cell.colour == CLEAN || depth > CELLS_LIMIT) {
                return;
            }
            cell.busy = true;
            if (cell.colour == CHECK) {
                checkReads(cell, depth);
            }
            if (cell.colour == DIRTY) {
                runOnce(cell, number, depth);
            }
            cell.busy = false;
        }

        private void checkReads(Cell cell, int depth) {
            for (int i = 0; i < cell.reads.size() && cell.colour == CHECK; i++) {
                int number = cell.reads.at(i);
                Cell read = web.cell(number);
                if (read != null && read.kind == MEMO) {
                    refresh(number, depth + 1);
                }
            }
            if (cell.colour == CHECK) {
                cell.colour = CLEAN;
            }
        }

        private void runOnce(Cell cell, int number, int depth) {
            web.clearReads(number);
            if (cell.kind == EFFECT) {
                disposeOwned(number, 0);
            }
            Formula formula = cell.formula;
            if (formula == null) {
                return;
            }
            formula.start();
            for (int i = 0; i < TAPE_LIMIT && formula.goesOn(); i++) {
                formula.give(outcomeRead(cell, number, formula.asked(), depth));
            }
            long outcome = formula.outcome();
            cell.colour = CLEAN;
            cell.runs++;
            if (cell.kind == EFFECT) {
                web.addToLog(number, outcome);
            }
            if (outcome != cell.outcome || cell.version == 0) {
                cell.outcome = outcome;
                cell.version++;
                colour(web.readersOf(number), 0);
            }
        }

        private long outcomeRead(Cell reader, int readerNumber, int number, int depth) {
            Cell cell = web.cell(number);
            Formula formula = reader.formula;
            if (cell == null || formula == null || !cell.isReadable()) {
                return UNREADABLE;
            }
            if (formula.isTracked() && number != readerNumber) {
                web.addRead(readerNumber, number);
            }
            if (cell.busy) {
                return RING;
            }
            if (cell.kind == MEMO) {
                refresh(number, depth + 1);
            }
            return cell.outcome;
        }
    }

    /** Works out outcomes as if nothing were kept, and changes nothing of the web. */
    private static final class Beside {
        private static final int UNKNOWN = 0;
        private static final int BEING_WORKED_OUT = 1;
        private static final int KNOWN = 2;

        private final Web web;
        private final long[] outcomes = new long[CELLS_LIMIT];
        private final int[] states = new int[CELLS_LIMIT];
        private int changed;
        private int changedTo;

        Beside(Web web) {
            this.web = web;
        }

        long outcomeNow(int number) {
            return outcomeIf(NONE, 0, number);
        }

        /** The plain outcome, if a source (or NONE) had v. */
        long outcomeIf(int source, int v, int number) {
            changed = source;
            changedTo = v;
            for (int i = 0; i < states.length; i++) {
                states[i] = UNKNOWN;
            }
            return outcomeOf(number, 0);
        }

        private long outcomeOf(int number, int depth) {
            Cell cell = web.cell(number);
            if (cell == null || depth > CELLS_LIMIT) {
                return UNREADABLE;
            }
            if (cell.kind == SOURCE) {
                return number == changed ? changedTo : cell.outcome;
            }
            Formula formula = cell.formula;
            if (formula == null || number >= states.length || number >= outcomes.length) {
                return UNREADABLE;
            }
            if (states[number] == BEING_WORKED_OUT) {
                return RING;
            }
            if (states[number] == KNOWN) {
                return outcomes[number];
            }
            states[number] = BEING_WORKED_OUT;
            formula.start();
            for (int i = 0; i < TAPE_LIMIT && formula.goesOn(); i++) {
                formula.give(outcomeRead(formula.asked(), depth));
            }
            states[number] = KNOWN;
            outcomes[number] = formula.outcome();
            return outcomes[number];
        }

        private long outcomeRead(int number, int depth) {
            Cell cell = web.cell(number);
            return cell != null && cell.isReadable() ? outcomeOf(number, depth + 1) : UNREADABLE;
        }
    }
}
