/** Terms 2, "PULLING AND PUSHING": each sentence on reads, refreshes, runs, marks, disposals, flushes. */
public final class PullingTest {
    private static final Due due = new Due("PullingTest");

    public static void main(String[] args) {
        unreadable();
        untracked();
        itself();
        busy();
        checkedIsBusy();
        busyUntracked();
        refreshedByReading();
        cleanIsNothing();
        checkedOneByOne();
        stillCheckIsClean();
        failsAreOutcomes();
        runsAnew();
        effectsDisposeFirst();
        versionZero();
        onlyReadersAreDirty();
        marksThroughThoseNotClean();
        marks();
        marksThroughTheFirstCell();
        marksInRings();
        queueByNumbers();
        written();
        newEffects();
        anotherFormula();
        anotherFormulaInRings();
        anotherFormulaOfEffects();
        disposedOf();
        disposedDeepestFirst();
        disposedMarks();
        disposedInTheQueue();
        flushAsLongAs();
        flushBehindEachCall();
        flushOfAHundred();
        flushCountsWhatIsTaken();
        noFlushBehindOthers();
        batches();
        theLogKeepsSixty();
        due.end();
    }

    private static PulledSignals ofAllKinds() {
        PulledSignals x = Due.withSources(7, 8);
        x.scope(Due.NONE);
        Due.effect(x, "a");
        Due.memo(x, "b");
        Due.memo(x, "a+1");
        x.dispose(1);
        x.dispose(5);
        return x;
    }

    private static void unreadable() {
        due.says("if y is GONE, an EFFECT or a SCOPE: FAIL UNREADABLE");
        String[] told = {"b", "c", "d", "f", "~b", "~c", "~d", "~f"};
        for (String text : told) {
            PulledSignals x = ofAllKinds();
            int memo = Due.memo(x, text);
            due.is(text, x.read(memo), Due.UNREADABLE);
            due.text("reads of " + text, Due.reads(x, memo), "");
            due.is("plain " + text, x.plain(memo), Due.UNREADABLE);
            int more = Due.memo(x, "a+" + text + "+e");
            due.is("a+" + text + "+e", x.read(more), Due.UNREADABLE);
            due.text("its reads", Due.reads(x, more), "a");
            due.is("runs of e", x.cellOf(4, 5), 0);
            int effect = Due.effect(x, text);
            due.is("an effect of " + text, x.kept(effect), Due.UNREADABLE);
            due.is("readers", x.cellOf(text.charAt(text.length() - 1) - 'a', 7), 0);
        }
        PulledSignals x = ofAllKinds();
        Due.reform(x, 3, "d");
        due.is("an effect of itself", x.kept(3), Due.UNREADABLE);
        due.is("itself, plain", x.plain(3), Due.UNREADABLE);
        Due.reform(x, 3, "a+~d");
        due.is("an effect of itself untracked", x.kept(3), Due.UNREADABLE);
        due.text("its reads", Due.reads(x, 3), "a");
    }

    private static void untracked() {
        due.says("unless it is untracked or y is x, y is put behind x's READS, if it isn't there");
        PulledSignals x = Due.withSources(7, 8);
        Due.memo(x, "~a+b");
        due.is("outcome", x.read(2), 15);
        due.text("reads", Due.reads(x, 2), "b");
        due.is("readers", x.cellOf(0, 7), 0);
        x.write(0, 9);
        due.text("no mark", Due.colours(x), "...");
        due.is("as it was", x.read(2), 15);
        x.write(1, 10);
        due.is("read anew", x.read(2), 19);
        Due.memo(x, "~b+a+b+~a+a");
        x.read(3);
        due.text("as first tracked", Due.reads(x, 3), "ab");
        Due.memo(x, "b+a+c+a+b");
        x.read(4);
        due.text("each once", Due.reads(x, 4), "bac");
        due.is("readers of a", x.cellOf(0, 7), 1 << 3 | 1 << 4);
        due.is("readers of b", x.cellOf(1, 7), 1 << 2 | 1 << 3 | 1 << 4);
    }

    private static void itself() {
        due.says("unless y is x; if y is BUSY: FAIL RING");
        for (String text : new String[] {"b", "~b"}) {
            PulledSignals x = Due.withSources(7);
            Due.memo(x, "1");
            Due.reform(x, 1, "a+" + text);
            due.is("outcome", x.read(1), Due.RING);
            due.text("reads", Due.reads(x, 1), "a");
            due.is("readers", x.cellOf(1, 7), 0);
            due.is("runs", x.cellOf(1, 5), 1);
            due.is("version", x.cellOf(1, 4), 1);
            due.is("colour", x.cellOf(1, 3), 0);
            due.is("plain", x.plain(1), Due.RING);
            Due.reform(x, 1, "[a?a:" + text + "]");
            due.is("not asked", x.read(1), 7);
        }
    }

    private static void busy() {
        due.says("y is put behind x's READS. Then, if y is BUSY (being REFRESHED just now): FAIL RING");
        PulledSignals x = Due.withSources(7);
        Due.memo(x, "a");
        Due.memo(x, "b+a");
        Due.reform(x, 1, "c+a");
        due.is("outcome", x.read(1), Due.RING);
        due.text("reads of b", Due.reads(x, 1), "c");
        due.text("reads of c", Due.reads(x, 2), "b");
        due.is("kept of c", x.kept(2), Due.RING);
        due.text("the reader of what changed", Due.colours(x), "..!");
        due.text("runs", Due.runs(x), "011");
        due.is("versions", x.cellOf(1, 4) * 10 + x.cellOf(2, 4), 11);
        due.is("the other one", x.read(2), Due.RING);
        due.text("runs", Due.runs(x), "012");
        due.text("colours", Due.colours(x), "...");
        Due.reform(x, 1, "a");
        due.is("well again", x.read(2), 14);
    }

    private static void checkedIsBusy() {
        due.says("One that is CHECKED is BUSY, too");
        PulledSignals x = Due.withSources(7);
        Due.memo(x, "a");
        Due.memo(x, "b+a");
        due.is("no ring yet", x.read(2), 14);
        Due.reform(x, 1, "a+c*0");
        due.text("colours", Due.colours(x), ".!?");
        due.is("read of the one to be checked", x.read(2), Due.RING);
        due.is("kept of the one that ran for it", x.kept(1), Due.RING);
        due.text("reads of b", Due.reads(x, 1), "ac");
        due.text("reads of c", Due.reads(x, 2), "b");
        due.text("runs", Due.runs(x), "022");
        due.text("colours", Due.colours(x), ".!.");
        PulledSignals y = Due.withSources(7);
        Due.memo(y, "a");
        Due.effect(y, "b");
        Due.reform(y, 1, "a+c");
        due.is("an effect is unreadable, busy or not", y.kept(2), Due.UNREADABLE);
    }

    private static void busyUntracked() {
        due.says("if y is BUSY: FAIL RING");
        PulledSignals x = Due.withSources(7);
        Due.memo(x, "a");
        Due.memo(x, "~b");
        Due.reform(x, 1, "~c");
        due.is("outcome", x.read(1), Due.RING);
        due.text("reads of b", Due.reads(x, 1), "");
        due.text("reads of c", Due.reads(x, 2), "");
        due.is("kept of c", x.kept(2), Due.RING);
        due.text("colours", Due.colours(x), "...");
        Due.effect(x, "b");
        due.is("an effect hands it on", x.logged(0), Due.RING);
    }

    private static void refreshedByReading() {
        due.says("A MEMO is REFRESHED. Its OUTCOME is what was read");
        PulledSignals x = Due.withSources(7);
        Due.memo(x, "a+1");
        Due.memo(x, "~b*2");
        Due.memo(x, "c+b");
        due.text("nothing is worked out before it is asked for", Due.runs(x), "0000");
        due.text("colours", Due.colours(x), ".!!!");
        due.is("read", x.read(3), 24);
        due.text("each once", Due.runs(x), "0111");
        x.write(0, 8);
        due.text("marks", Due.colours(x), ".!.?");
        due.is("read", x.read(3), 25);
        due.text("runs", Due.runs(x), "0212");
        due.is("versions", x.cellOf(1, 4) * 100 + x.cellOf(2, 4) * 10 + x.cellOf(3, 4), 212);
    }

    private static void cleanIsNothing() {
        due.says("A COMPUTED is REFRESHED: CLEAN: nothing");
        PulledSignals x = Due.withSources(7);
        Due.memo(x, "~a");
        x.read(1);
        x.write(0, 8);
        due.is("read", x.read(1), 7);
        due.is("runs", x.cellOf(1, 5), 1);
        Due.memo(x, "b+b+~b");
        due.is("read", x.read(2), 21);
        due.is("runs", x.cellOf(1, 5), 1);
    }

    private static void checkedOneByOne() {
        due.says("of its READS, one by one, each that is a MEMO is REFRESHED, until it is DIRTY itself");
        PulledSignals x = Due.withSources(0);
        Due.memo(x, "a>0");
        Due.memo(x, "a*2");
        Due.memo(x, "[b?1:c]");
        due.is("read", x.read(3), 0);
        due.text("reads", Due.reads(x, 3), "bc");
        x.write(0, 1);
        due.text("marks", Due.colours(x), ".!!?");
        due.is("read", x.read(3), 1);
        due.text("the second one isn't refreshed", Due.colours(x), "..!.");
        due.text("runs", Due.runs(x), "0212");
        due.text("reads", Due.reads(x, 3), "b");
        PulledSignals y = Due.withSources(0, 5);
        Due.memo(y, "a*0");
        Due.memo(y, "a+1");
        Due.memo(y, "c+b+d");
        y.read(4);
        y.write(0, 3);
        due.text("marks", Due.colours(y), "..!!?");
        due.is("the last one makes it dirty", y.read(4), 9);
        due.text("runs", Due.runs(y), "00222");
    }

    private static void stillCheckIsClean() {
        due.says("if it is still CHECK behind all, it is CLEAN");
        PulledSignals x = Due.withSources(4);
        Due.memo(x, "a%2");
        Due.memo(x, "b+1");
        Due.memo(x, "c+b");
        Due.effect(x, "d");
        x.begin();
        x.write(0, 6);
        due.text("marks", Due.colours(x), ".!???");
        due.is("read", x.read(3), 1);
        due.text("colours", Due.colours(x), "....?");
        due.text("runs", Due.runs(x), "02111");
        x.end();
        due.text("colours", Due.colours(x), ".....");
        due.text("the effect didn't run", Due.runs(x), "02111");
        due.is("log", x.status(4), 1);
        due.is("versions", x.cellOf(1, 4), 1);
    }

    private static void failsAreOutcomes() {
        due.says("Is the OUTCOME another than before");
        PulledSignals x = Due.withSources(0);
        x.scope(Due.NONE);
        Due.memo(x, "[a<2?1/a:b]");
        Due.memo(x, "[a<2?c:c]");
        due.is("by 0", x.read(3), Due.ZERO);
        x.write(0, 1);
        due.is("a number", x.read(3), 1);
        due.is("version", x.cellOf(2, 4), 2);
        x.write(0, 2);
        due.is("another fail", x.read(3), Due.UNREADABLE);
        due.is("version", x.cellOf(2, 4), 3);
        x.write(0, 3);
        due.is("the same fail", x.read(3), Due.UNREADABLE);
        due.is("no version", x.cellOf(2, 4), 3);
        due.is("but a run", x.cellOf(2, 5), 4);
        x.write(0, 0);
        due.is("the first fail", x.read(3), Due.ZERO);
        due.is("version", x.cellOf(2, 4), 4);
    }

    private static void runsAnew() {
        due.says("It RUNS: its READS are none; its FORMULA is worked out; it is CLEAN; RUNS is 1 more");
        PulledSignals x = Due.withSources(1, 5, 6);
        Due.memo(x, "[a?b:c]+[a?1:b]");
        due.is("read", x.read(3), 6);
        due.text("reads", Due.reads(x, 3), "ab");
        x.write(0, 0);
        due.text("till it runs", Due.reads(x, 3), "ab");
        due.is("read", x.read(3), 11);
        due.text("reads", Due.reads(x, 3), "acb");
        x.write(0, 2);
        due.is("read", x.read(3), 6);
        due.text("reads", Due.reads(x, 3), "ab");
        x.write(2, 9);
        due.text("no more a reader", Due.colours(x), "....");
        Due.reform(x, 3, "1/0");
        due.is("fails", x.read(3), Due.ZERO);
        due.is("runs", x.cellOf(3, 5), 4);
        due.text("clean", Due.colours(x), "....");
        due.text("no reads", Due.reads(x, 3), "");
        due.is("all runs", x.status(6), 4);
    }

    private static void effectsDisposeFirst() {
        due.says("an EFFECT disposes of all that it OWNS (from the greatest number to the least); its FORMULA is "
                + "worked out");
        PulledSignals x = Due.withSources(1);
        Due.effect(x, "a");
        x.source(5, 1);
        x.scope(1);
        x.source(6, 1);
        x.source(7, 3);
        x.source(8, 3);
        Due.memo(x, "c+e+f", Due.NONE);
        due.is("read", x.read(7), 18);
        Due.reform(x, 1, "c");
        due.is("its own is gone when it is worked out", x.logged(1), Due.UNREADABLE);
        due.text("the disposed", Due.disposed(x), "egfdc");
        due.is("gone", x.status(1), 5);
        due.is("what read them", x.read(7), Due.UNREADABLE);
        due.is("owns", x.cellOf(1, 8), 0);
        x.source(9, 1);
        x.begin();
        x.write(0, 2);
        due.is("not ahead of its run", x.cellOf(8, 2), 0);
        x.end();
        due.is("it doesn't run, as it doesn't read", x.cellOf(8, 2), 0);
        Due.reform(x, 1, "a");
        due.is("at each run", x.cellOf(8, 2), 1);
    }

    private static void versionZero() {
        due.says("another than before, or VERSION 0: it has that OUTCOME, VERSION is 1 more");
        PulledSignals x = Due.withSources(0, 3);
        Due.memo(x, "a");
        due.is("at first", x.cellOf(2, 4), 0);
        due.is("outcome at first", x.kept(2), 0);
        due.is("0 the first time", x.read(2), 0);
        due.is("version", x.cellOf(2, 4), 1);
        Due.reform(x, 2, "a*b");
        due.is("0 again", x.read(2), 0);
        due.is("version", x.cellOf(2, 4), 1);
        due.is("runs", x.cellOf(2, 5), 2);
        Due.effect(x, "a*b");
        due.is("of an effect", x.cellOf(3, 4), 1);
        x.write(1, 4);
        due.is("the same again", x.cellOf(3, 4), 1);
        due.is("but logged", x.status(4), 2);
        x.write(0, 2);
        due.is("another", x.cellOf(3, 4), 2);
        due.is("logged", x.logged(2), 8);
        due.is("kept", x.kept(3), 8);
    }

    /** a is 1-b+s*0, b is a: each run of the one makes the other dirty; c and d are effects of b. */
    private static PulledSignals turning() {
        PulledSignals x = new PulledSignals();
        Due.memo(x, "1");
        Due.memo(x, "a");
        x.read(1);
        x.source(5, Due.NONE);
        Due.reform(x, 0, "1-b+c*0");
        due.is("a turns", x.read(0), 0);
        due.text("b is dirty", Due.colours(x), ".!.");
        Due.effect(x, "b");
        Due.effect(x, "b");
        due.text("a is dirty", Due.colours(x), "!....");
        x.begin();
        due.is("a turns again", x.read(0), 1);
        return x;
    }

    private static void onlyReadersAreDirty() {
        due.says("its READERS are DIRTY (EFFECTS of them that were CLEAN come to THE QUEUE, by numbers)");
        PulledSignals x = turning();
        due.text("b alone", Due.colours(x), ".!...");
        due.is("queue", x.status(3), 0);
        due.is("b turns", x.read(1), 1);
        due.text("its readers", Due.colours(x), "!..!!");
        due.text("queue", Due.queue(x), "de");
        due.is("a turns", x.read(0), 0);
        due.is("b turns", x.read(1), 0);
        due.text("each once", Due.queue(x), "de");
        due.is("logged", x.status(4), 2);
    }

    private static void marksThroughThoseNotClean() {
        due.says("READERS of these, READERS of those, and so on (through those that aren't CLEAN, too)");
        PulledSignals x = turning();
        x.write(2, 6);
        due.text("marks", Due.colours(x), "!!.??");
        due.text("queue", Due.queue(x), "de");
        PulledSignals y = turning();
        Due.reform(y, 0, "c");
        due.text("another formula", Due.colours(y), "!!.??");
        due.text("queue", Due.queue(y), "de");
        PulledSignals z = turning();
        z.dispose(2);
        due.text("disposed", Due.colours(z), "!! ??");
        due.text("queue", Due.queue(z), "de");
    }

    private static void marks() {
        due.says("To MARK what hangs on a CELL: its READERS are DIRTY; if they are CLEAN, are CHECK");
        PulledSignals x = Due.withSources(1, 2);
        Due.memo(x, "a");
        Due.memo(x, "c+b");
        Due.memo(x, "d");
        Due.memo(x, "a+c+d");
        Due.memo(x, "~a+~c");
        for (int c = 2; c < 7; c++) {
            x.read(c);
        }
        due.text("clean", Due.colours(x), ".......");
        x.write(0, 5);
        due.text("marks of a", Due.colours(x), "..!??!.");
        x.write(1, 6);
        due.text("one to be checked gets dirty", Due.colours(x), "..!!?!.");
        x.write(0, 7);
        due.text("one that is dirty stays so", Due.colours(x), "..!!?!.");
        x.read(2);
        due.text("its readers, dirty before or not", Due.colours(x), "...!?!.");
        x.read(4);
        due.text("all that it needs", Due.colours(x), ".....!.");
        x.read(5);
        x.write(1, 7);
        due.text("marks of b", Due.colours(x), "...!??.");
    }

    private static void marksThroughTheFirstCell() {
        due.says("READERS of these, READERS of those");
        PulledSignals x = new PulledSignals();
        Due.memo(x, "1");
        x.source(5, Due.NONE);
        Due.reform(x, 0, "b");
        Due.memo(x, "a");
        Due.effect(x, "c");
        due.is("readers of the first", x.cellOf(0, 7), 1 << 2);
        x.begin();
        x.write(1, 6);
        due.text("marks", Due.colours(x), "!.??");
        due.is("reaches", x.reaches(3, 0) * 10 + x.reaches(3, 1), 11);
        due.is("how many", x.cellOf(3, 10), 3);
        x.end();
        due.is("logged", x.logged(1), 6);
    }

    private static void marksInRings() {
        due.says("READERS of those, and so on, if they are CLEAN, are CHECK");
        PulledSignals x = Due.withSources(1);
        Due.memo(x, "a");
        Due.memo(x, "b");
        Due.memo(x, "c");
        Due.reform(x, 1, "[a?d:5]");
        for (int i = 0; i < 2; i++) {
            x.read(3);
            x.read(2);
            x.read(1);
        }
        due.text("clean", Due.colours(x), "....");
        due.is("ring", x.kept(3), Due.RING);
        due.is("each reaches itself", x.reaches(1, 1) + x.reaches(2, 2) + x.reaches(3, 3), 3);
        due.is("and the source", x.cellOf(1, 10), 4);
        x.write(0, 0);
        due.text("marks", Due.colours(x), ".!??");
        due.is("well again", x.read(3), 5);
        due.text("clean", Due.colours(x), "....");
    }

    private static void queueByNumbers() {
        due.says("EFFECTS that were CLEAN ahead of it, and aren't now, come behind THE QUEUE, by numbers");
        PulledSignals x = Due.withSources(1, 2);
        Due.memo(x, "a");
        Due.effect(x, "c");
        Due.effect(x, "a");
        Due.effect(x, "c+b");
        Due.effect(x, "b");
        Due.effect(x, "a+c");
        x.begin();
        x.write(0, 5);
        due.text("dirty or to be checked", Due.colours(x), "..!?!?.!");
        due.text("queue", Due.queue(x), "defh");
        x.write(1, 6);
        due.text("now dirty, but there already", Due.colours(x), "..!?!!!!");
        due.text("queue", Due.queue(x), "defhg");
        x.write(1, 7);
        due.text("no more", Due.queue(x), "defhg");
        x.end();
        due.is("they ran in that order", x.log(5) * 10000 + x.log(6) * 1000 + x.log(7) * 100 + x.log(8) * 10 + x.log(9),
                34576);
        due.text("all clean", Due.colours(x), "........");
        due.is("none is left", x.status(3), 0);
    }

    private static void written() {
        due.says("WRITTEN another number: a SOURCE has it, VERSION is 1 more, what hangs on it is MARKED");
        PulledSignals x = Due.withSources(0);
        Due.effect(x, "a");
        int[] numbers = {0, 1, 1, -1, Due.MIN, Due.MIN, Due.MAX, 0, 0};
        int[] versions = {0, 1, 1, 2, 3, 3, 4, 5, 5};
        for (int i = 0; i < numbers.length; i++) {
            due.is("write " + numbers[i], x.write(0, numbers[i]), versions[i]);
            due.is("it has it", x.read(0), numbers[i]);
            due.is("version", x.cellOf(0, 4), versions[i]);
            due.is("runs", x.cellOf(1, 5), versions[i] + 1);
            due.is("outcome", x.kept(1), numbers[i]);
            due.is("log", x.status(4), versions[i] + 1);
        }
        x.begin();
        x.write(0, 0);
        due.text("the same marks nothing", Due.colours(x), "..");
        x.write(0, 3);
        x.write(0, 0);
        due.text("there and back marks", Due.colours(x), ".!");
        due.is("version", x.cellOf(0, 4), 7);
    }

    private static void newEffects() {
        due.says("A new EFFECT comes behind THE QUEUE");
        PulledSignals x = Due.withSources(1);
        Due.effect(x, "a");
        x.begin();
        Due.effect(x, "a*2");
        x.write(0, 4);
        Due.effect(x, "a*3");
        due.text("queue", Due.queue(x), "cbd");
        due.text("colours", Due.colours(x), ".!!!");
        due.is("outcome", x.kept(3), 0);
        due.is("version", x.cellOf(3, 4), 0);
        due.is("no run", x.cellOf(3, 5), 0);
        x.end();
        due.is("logged", x.logged(1) * 10000 + x.logged(2) * 100 + x.logged(3), 80412);
        due.is("log", x.log(1) * 100 + x.log(2) * 10 + x.log(3), 213);
    }

    private static void anotherFormula() {
        due.says("A COMPUTED gets another FORMULA: it is DIRTY; those that would be DIRTY only CHECK, if they are CLEAN");
        PulledSignals x = Due.withSources(1, 2);
        Due.memo(x, "a");
        Due.memo(x, "c");
        Due.memo(x, "d");
        Due.effect(x, "c");
        Due.effect(x, "e");
        x.begin();
        Due.reform(x, 2, "b-1");
        due.text("marks", Due.colours(x), "..!????");
        due.text("queue", Due.queue(x), "fg");
        due.text("With another FORMULA the READS stay till it RUNS", Due.reads(x, 2), "a");
        due.is("readers", x.cellOf(0, 7), 1 << 2);
        due.is("readers", x.cellOf(1, 7), 0);
        due.is("plain", x.plain(4), 1);
        due.is("kept", x.kept(2), 1);
        x.end();
        due.text("the same outcome runs no other", Due.runs(x), "0021111");
        due.is("version", x.cellOf(2, 4), 1);
        due.text("reads", Due.reads(x, 2), "b");
        x.begin();
        x.write(1, 7);
        x.read(2);
        due.text("dirty by the outcome", Due.colours(x), "...!?!?");
        Due.reform(x, 2, "a+b");
        due.text("dirty ones stay dirty", Due.colours(x), "..!!?!?");
        due.text("queue", Due.queue(x), "fg");
        Due.reform(x, 2, "a");
        due.text("twice is as once", Due.colours(x), "..!!?!?");
        x.end();
        due.is("the one that was dirty ran", x.log(2) * 10 + x.logged(2), 51);
        due.is("the one to be checked didn't", x.status(4), 3);
    }

    private static void anotherFormulaInRings() {
        due.says("it is DIRTY, then what hangs on it is MARKED");
        PulledSignals x = Due.withSources(1);
        Due.memo(x, "a");
        Due.memo(x, "b");
        Due.reform(x, 1, "c");
        x.read(1);
        x.read(2);
        due.text("a ring", Due.colours(x), "...");
        Due.reform(x, 1, "a");
        due.text("it stays dirty, though it hangs on itself", Due.colours(x), ".!?");
        due.is("well again", x.read(2), 1);
    }

    private static void anotherFormulaOfEffects() {
        due.says("an EFFECT that was CLEAN comes behind THE QUEUE");
        PulledSignals x = Due.withSources(1);
        Due.memo(x, "a%2");
        Due.effect(x, "b");
        Due.effect(x, "a");
        x.begin();
        x.write(0, 3);
        due.text("colours", Due.colours(x), ".!?!");
        Due.reform(x, 2, "a+100");
        due.text("from check to dirty", Due.colours(x), ".!!!");
        due.text("no second time", Due.queue(x), "cd");
        x.end();
        due.is("logged", x.logged(2), 103);
        x.begin();
        Due.reform(x, 3, "7");
        Due.reform(x, 2, "8");
        due.text("queue", Due.queue(x), "dc");
        Due.effect(x, "9");
        Due.reform(x, 4, "10");
        due.text("a new one is there already", Due.queue(x), "dce");
        x.end();
        due.is("logged", x.logged(4) * 1000 + x.logged(5) * 100 + x.logged(6), 7810);
        Due.reform(x, 3, "a*2");
        due.is("it runs at once", x.logged(7), 6);
        due.text("reads", Due.reads(x, 3), "a");
    }

    private static void disposedOf() {
        due.says("it is GONE, out of THE QUEUE, CLEAN, its number is put in THE DISPOSED; its READS are none");
        PulledSignals x = Due.withSources(1, 2);
        x.scope(Due.NONE);
        Due.memo(x, "a+b", 2);
        Due.memo(x, "d", Due.NONE);
        Due.effect(x, "e+a", Due.NONE);
        x.begin();
        x.write(0, 5);
        due.text("colours", Due.colours(x), "...!?!");
        due.is("a memo", x.dispose(3), 1);
        due.is("colour", x.cellOf(3, 3), 0);
        due.is("reads", x.cellOf(3, 6), 0);
        due.is("readers of a", x.cellOf(0, 7), 1 << 5);
        due.is("its readers still have it", x.cellOf(3, 7), 1 << 4);
        due.text("reads of e", Due.reads(x, 4), "d");
        due.text("what hangs on it", Due.colours(x), "... !!");
        due.is("outcome stays", x.kept(3), 3);
        due.is("version stays", x.cellOf(3, 4), 1);
        due.is("runs stay", x.cellOf(3, 5), 1);
        due.is("owner stays", x.cellOf(3, 1), 2);
        due.is("kind stays", x.cellOf(3, 0), 3);
        due.is("an effect", x.dispose(5), 1);
        due.is("queue", x.status(3), 0);
        due.is("colour", x.cellOf(5, 3), 0);
        due.is("a source", x.dispose(0), 1);
        due.is("a scope whose own is gone", x.dispose(2), 1);
        due.text("the disposed", Due.disposed(x), "dfac");
        x.end();
        due.is("it didn't run", x.status(4), 1);
        due.is("read by its reader", x.read(4), Due.UNREADABLE);
        due.is("no more a reader", x.cellOf(3, 7), 0);
        due.is("a number stays GONE's", x.source(3, Due.NONE), 6);
    }

    private static void disposedDeepestFirst() {
        due.says("of all it OWNS that isn't GONE, from the greatest number to the least, each first; then");
        PulledSignals x = new PulledSignals();
        x.scope(Due.NONE);
        x.scope(0);
        x.scope(0);
        x.source(1, 1);
        x.scope(1);
        x.source(1, 2);
        x.source(1, 4);
        x.source(1, 0);
        x.source(1, Due.NONE);
        x.source(1, 2);
        x.dispose(3);
        due.is("how many went", x.dispose(0), 8);
        due.text("the disposed", Due.disposed(x), "dhjfcgeba");
        due.is("gone", x.status(1), 9);
        due.is("another's stays", x.cellOf(8, 2), 0);
        PulledSignals y = new PulledSignals();
        y.scope(Due.NONE);
        for (int i = 1; i < 24; i++) {
            y.scope(i - 1);
        }
        due.is("24 deep", y.dispose(0), 24);
        due.text("the disposed", Due.disposed(y), "xwvutsrqponmlkjihgfedcba");
        PulledSignals z = new PulledSignals();
        z.scope(Due.NONE);
        for (int i = 1; i < 24; i++) {
            z.source(i, 0);
        }
        due.is("23 owned", z.dispose(0), 24);
        due.text("the disposed", Due.disposed(z), "xwvutsrqponmlkjihgfedcba");
    }

    private static void disposedMarks() {
        due.says("what hangs on it is MARKED");
        PulledSignals x = Due.withSources(1, 2);
        Due.memo(x, "a");
        Due.effect(x, "c");
        Due.effect(x, "a");
        Due.effect(x, "b");
        x.begin();
        x.dispose(0);
        due.text("marks", Due.colours(x), " .!?!.");
        due.text("queue", Due.queue(x), "de");
        x.end();
        due.is("logged", x.logged(3), Due.UNREADABLE);
        due.is("logged", x.logged(4), Due.UNREADABLE);
        due.text("reads", Due.reads(x, 3) + Due.reads(x, 4), "c");
        due.is("counted", x.status(4), 5);
        due.is("without a batch", x.dispose(1), 1);
        due.is("it runs at once", x.log(5), 5);
        due.is("logged", x.logged(5), Due.UNREADABLE);
    }

    private static void disposedInTheQueue() {
        due.says("out of THE QUEUE");
        PulledSignals x = Due.withSources(1);
        Due.effect(x, "a");
        Due.effect(x, "a+1", 1);
        Due.effect(x, "a+2");
        x.begin();
        x.write(0, 5);
        due.text("queue", Due.queue(x), "bcd");
        x.end();
        due.text("what the first one owns goes ahead of its turn", Due.disposed(x), "c");
        due.is("log", x.log(3) * 10 + x.log(4), 13);
        due.is("counted", x.status(4), 5);
        x.scope(Due.NONE);
        Due.effect(x, "a+3", 4);
        x.begin();
        x.write(0, 6);
        due.text("queue", Due.queue(x), "bdf");
        due.is("its owner", x.dispose(4), 2);
        due.text("queue", Due.queue(x), "bd");
    }

    private static void flushAsLongAs() {
        due.says("as long as there is something in THE QUEUE, the first one is taken out of it and REFRESHED");
        PulledSignals x = Due.withSources(1);
        Due.effect(x, "a");
        x.source(5, 1);
        Due.effect(x, "c");
        Due.effect(x, "a+10");
        due.is("disposed by what runs", x.write(0, 2), 1);
        due.is("log", x.log(3) * 100 + x.log(4) * 10 + x.log(5), 143);
        due.is("logged", x.logged(5), Due.UNREADABLE);
        due.is("none is left", x.status(3), 0);
        due.text("clean", Due.colours(x), ".. ..");
    }

    private static void flushBehindEachCall() {
        due.says("Behind each call that writes, makes an EFFECT, gives a FORMULA, disposes: FLUSH");
        PulledSignals x = Due.withSources(1);
        Due.memo(x, "a");
        Due.effect(x, "b");
        due.is("makes an effect", x.status(4), 1);
        x.write(0, 2);
        due.is("writes", x.status(4), 2);
        Due.reform(x, 1, "a+1");
        due.is("gives a formula", x.status(4), 3);
        x.dispose(1);
        due.is("disposes", x.status(4), 4);
        due.is("none is left", x.status(3), 0);
    }

    /** Two effects over two memos that turn for ever: a flush ends by its limit. */
    private static PulledSignals endless() {
        PulledSignals x = new PulledSignals();
        Due.memo(x, "1");
        Due.memo(x, "a");
        x.read(1);
        Due.reform(x, 0, "1-b");
        x.read(0);
        x.source(4, Due.NONE);
        Due.effect(x, "a+b");
        due.is("one alone rests", x.status(4) * 10 + x.status(3), 10);
        Due.effect(x, "a+b");
        return x;
    }

    private static void flushOfAHundred() {
        due.says("when 100 have been taken out in one FLUSH, it ends, and what is in THE QUEUE then stays there");
        PulledSignals x = endless();
        due.is("an effect", x.status(4), 101);
        due.is("left", x.status(3), 1);
        x.write(2, 5);
        due.is("a write", x.status(4), 201);
        x.write(2, 5);
        due.is("a write of the same", x.status(4), 301);
        x.read(2);
        due.is("a read of a source", x.status(4), 401);
        x.read(3);
        due.is("a read of an effect", x.status(4), 501);
        x.read(0);
        due.is("a read of a memo", x.status(4), 601);
        x.dispose(2);
        due.is("a disposal", x.status(4), 701);
        x.begin();
        x.end();
        due.is("the end of a batch", x.status(4), 801);
        Due.memo(x, "1");
        Due.reform(x, 5, "2");
        due.is("another formula", x.status(4), 901);
        x.source(0, Due.NONE);
        x.days(1);
        due.is("a day", x.status(4), 1001);
        x.days(3);
        due.is("three days", x.status(4), 1301);
        due.is("left", x.status(3), 1);
        x.show(0, 3);
        x.show(1, 4);
        due.is("of two effects", x.says(0, 4) + x.says(1, 4), 1301);
        due.is("all runs are more", x.status(6) > 1301 ? 1 : 0, 1);
        x.dispose(x.queued(0));
        due.is("the one that waits is gone", x.status(4), 1301);
    }

    private static void flushCountsWhatIsTaken() {
        due.says("when 100 have been taken out in one FLUSH");
        PulledSignals x = endless();
        Due.memo(x, "c*0");
        Due.effect(x, "f");
        due.is("all of them ran", x.status(4), 201);
        due.is("an effect but to be checked", x.cellOf(6, 3), 0);
        x.begin();
        x.write(2, 9);
        due.is("left and to be checked", x.status(3), 2);
        due.is("its colour", x.cellOf(6, 3), 1);
        x.end();
        due.is("it is taken out, but doesn't run", x.status(4), 300);
        due.is("its runs", x.cellOf(6, 5), 1);
        due.is("left", x.status(3), 1);
        x.begin();
        x.write(2, 8);
        x.read(5);
        due.is("what it reads is clean", x.cellOf(5, 3), 0);
        x.end();
        due.is("it is taken out, and nothing runs for it", x.status(4), 399);
        due.is("left", x.status(3), 1);
    }

    private static void noFlushBehindOthers() {
        due.says("FLUSH behind these calls alone");
        PulledSignals x = endless();
        x.source(1, Due.NONE);
        x.scope(Due.NONE);
        due.is("source, scope", x.status(4), 101);
        Due.memo(x, "a+b");
        due.is("feed, memo", x.status(4), 101);
        x.kept(0);
        x.plain(0);
        x.whatIf(2, 5, 1);
        x.aim(2, 1, 3);
        x.news(2, 1);
        x.cellOf(0, 10);
        x.reads(3, 0);
        x.spelled(0, 0);
        x.reaches(0, 1);
        x.colours(0);
        x.signs(1, 2, 3);
        due.is("questions", x.status(4), 101);
        x.row(0, 2, 3);
        x.set(0, 1, 2);
        x.copy(0, 0, 0, 1, 2);
        x.element(0, 1);
        x.judge(0, 1);
        x.show(1, 0);
        x.says(1, 2);
        x.holds(1);
        x.log(0);
        x.logged(0);
        x.queued(0);
        x.wipe();
        due.is("shelves and lists", x.status(4), 101);
        x.seed(4);
        x.image();
        due.is("image", x.status(4), 101);
        x.back();
        due.is("back", x.status(4), 101);
        due.is("left", x.status(3), 1);
        x.begin();
        due.is("begin", x.status(4), 101);
        x.write(2, 9);
        Due.effect(x, "c");
        Due.reform(x, 7, "a");
        x.dispose(5);
        x.read(2);
        due.is("left and the new one", x.status(3), 2);
        x.read(0);
        x.days(2);
        x.begin();
        x.end();
        due.is("in a batch", x.status(4), 101);
        due.is("left, the new one, and a reader of what read() worked out", x.status(3), 3);
        x.end();
        due.is("behind its end", x.status(4), 201);
    }

    private static void batches() {
        due.says("if no BATCH is begun (they may be begun one in another); else behind the end of the last BATCH");
        PulledSignals x = Due.withSources(1);
        Due.effect(x, "a");
        for (int i = 1; i <= 30; i++) {
            due.is("begin", x.begin(), i);
        }
        x.write(0, 2);
        x.write(0, 3);
        Due.effect(x, "a+1");
        for (int i = 29; i >= 1; i--) {
            due.is("end", x.end(), i);
            due.is("nothing ran", x.status(4), 1);
        }
        due.is("begin", x.begin(), 2);
        due.is("end", x.end(), 1);
        due.is("nothing ran", x.status(4), 1);
        due.is("the last", x.end(), 0);
        due.is("each once", x.status(4), 3);
        due.is("logged", x.logged(1) * 10 + x.logged(2), 34);
        due.is("end", x.end(), -5);
        x.write(0, 4);
        due.is("at once again", x.status(4), 5);
    }

    private static void theLogKeepsSixty() {
        due.says("THE LOG and THE DISPOSED keep the first 60 each; more are counted");
        PulledSignals x = Due.withSources(0);
        Due.effect(x, "a");
        for (int i = 1; i < 59; i++) {
            x.write(0, i);
        }
        due.is("counted", x.status(4), 59);
        due.is("the 59th", x.logged(58), 58);
        due.is("not yet", x.log(59), -2);
        x.write(0, 59);
        due.is("the 60th", x.logged(59), 59);
        due.is("not yet", x.log(60), -2);
        x.write(0, 60);
        due.is("counted", x.status(4), 61);
        due.is("none kept", x.log(60), -2);
        due.is("none kept", x.logged(60), -9_000_000_002L);
        due.is("the 60th stays", x.logged(59), 59);
        due.is("the first stays", x.logged(0), 0);
        x.show(0, 1);
        due.is("all that are counted", x.says(0, 4), 61);
    }
}
