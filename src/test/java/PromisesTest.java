/** The promises of the document one by one: ordinary inputs, the edges, and wrong inputs. */
public final class PromisesTest {
    private static final int NONE = UndoStore.NONE;
    private static final int BLOCKED = UndoStore.BLOCKED;
    private static final long NOTHING = UndoStore.NOTHING;
    private static final long HELD = UndoStore.HELD;
    private static final long REFUSED = UndoStore.REFUSED;
    private static final int LEAST = Stores.LEAST;
    private static final int MOST = Stores.MOST;
    /** Numbers that are never those of a transaction when two or fewer have been opened. */
    private static final int[] STRANGERS = {-1, 3, 150, 151, 512, LEAST, MOST};

    public static void main(String[] args) {
        constants();
        newObject();
        open();
        openAtMost150();
        get();
        getHolds();
        getOfTheStore();
        put();
        putIsBlocked();
        take();
        mark();
        back();
        backOverCommits();
        backCountsNetChanges();
        commit();
        commitHandsOverHolds();
        abort();
        state();
        told();
        toldOfThoseThatEnded();
        held();
        blocker();
        blockerLeavesOutAncestorsAlone();
        waits();
        waitsEndWithTheNextCall();
        ring();
        ringIsNoTail();
        ringWithMany();
        size();
        next();
        sum();
        looksHoldNothing();
        manyKeys();
        objectsAreApart();
        Due.close();
    }

    private static void constants() {
        Due due = new Due("constants");
        due.is("NONE", UndoStore.NONE, -1);
        due.is("BLOCKED", UndoStore.BLOCKED, -2);
        due.is("NOTHING", UndoStore.NOTHING, 1099511627776L);
        due.is("HELD", UndoStore.HELD, 2199023255552L);
        due.is("REFUSED", UndoStore.REFUSED, 4398046511104L);
    }

    private static void newObject() {
        Due due = new Due("promise 1");
        UndoStore x = new UndoStore();
        due.is("size(0)", x.size(0), 0);
        due.is("next(0, least)", x.next(0, LEAST), NOTHING);
        due.is("sum(0, least, most)", x.sum(0, LEAST, MOST), 0);
        due.is("get(0, 0)", x.get(0, 0), NOTHING);
        due.is("ring()", x.ring(), 0);
        due.is("state(1)", x.state(1), NONE);
        due.is("open(1)", x.open(1), NONE);
        due.is("open(0)", x.open(0), 1);
    }

    private static void open() {
        Due due = new Due("promise 2");
        UndoStore x = new UndoStore();
        due.is("open(0)", x.open(0), 1);
        due.is("open(1)", x.open(1), 2);
        for (int stranger : STRANGERS) {
            due.is("open(" + stranger + ")", x.open(stranger), NONE);
        }
        due.is("open(0) after refusals", x.open(0), 3);
        x.commit(2);
        due.is("open(committed)", x.open(2), NONE);
        x.abort(3);
        due.is("open(aborted)", x.open(3), NONE);
        due.is("open(1) again", x.open(1), 4);
        due.is("told(4, 0)", x.told(4, 0), 1);
    }

    private static void openAtMost150() {
        Due due = new Due("promise 2");
        UndoStore x = new UndoStore();
        for (int number = 1; number <= 150; number++) {
            due.is("open(0)", x.open(0), number);
        }
        due.is("the 151st", x.open(0), NONE);
        due.is("the 151st in another one", x.open(150), NONE);
        due.is("state(150)", x.state(150), 0);
        due.is("state(151)", x.state(151), NONE);
        due.is("abort(150)", x.abort(150), 1);
        due.is("ended ones count, too", x.open(0), NONE);
    }

    private static void get() {
        Due due = new Due("promise 3");
        UndoStore x = Stores.withNested(2);
        due.is("get of no key", x.get(1, 5), NOTHING);
        x.put(1, 5, -7);
        due.is("its own", x.get(1, 5), -7);
        due.is("its parent's", x.get(2, 5), -7);
        x.put(2, 5, MOST);
        due.is("its own before its parent's", x.get(2, 5), MOST);
        x.take(2, 5);
        due.is("a key away", x.get(2, 5), NOTHING);
        due.is("blocked by a child", x.get(1, 5), HELD);
        x.abort(2);
        due.is("what it wrote is back", x.get(1, 5), -7);
        x.put(1, LEAST, LEAST);
        x.put(1, MOST, 0);
        due.is("least key", x.get(1, LEAST), LEAST);
        due.is("value 0", x.get(1, MOST), 0);
        due.is("ended", x.get(2, 5), REFUSED);
        for (int stranger : STRANGERS) {
            due.is("get(" + stranger + ", 5)", x.get(stranger, 5), REFUSED);
        }
    }

    private static void getHolds() {
        Due due = new Due("promise 3");
        UndoStore x = Stores.withOpen(3);
        x.get(1, 4);
        due.is("held for reading, though there is none", x.held(1, 4), 1);
        due.is("two may read", x.get(2, 4), NOTHING);
        due.is("readers are in a writer's way", x.put(3, 4, 1), BLOCKED);
        x.put(3, 9, 9);
        due.is("blocked by a writer", x.get(1, 9), HELD);
        due.is("a blocked one holds nothing", x.held(1, 9), 0);
        x.put(3, 8, 8);
        x.get(3, 8);
        due.is("reading leaves held for writing", x.held(3, 8), 2);
    }

    private static void getOfTheStore() {
        Due due = new Due("promise 3");
        UndoStore x = Stores.withOpen(2);
        x.put(1, 3, 33);
        due.is("not yet committed, not blocked", x.get(0, 3), NOTHING);
        x.commit(1);
        due.is("committed", x.get(0, 3), 33);
        due.is("nothing is held then", x.put(2, 3, 34), 0);
        due.is("as the store has it", x.get(0, 3), 33);
        x.commit(2);
        due.is("committed again", x.get(0, 3), 34);
    }

    private static void put() {
        Due due = new Due("promise 4");
        UndoStore x = Stores.withNested(2);
        due.is("saw none", x.put(1, 1, 10), 1);
        due.is("saw its own", x.put(1, 1, 10), 0);
        due.is("saw its parent's", x.put(2, 1, 20), 0);
        x.take(2, 1);
        due.is("was away", x.put(2, 1, 30), 1);
        due.is("value", x.get(2, 1), 30);
        due.is("held for writing", x.held(2, 1), 2);
        due.is("into the store", x.put(0, 1, 1), NONE);
        x.abort(2);
        due.is("ended", x.put(2, 1, 1), NONE);
        for (int stranger : STRANGERS) {
            due.is("put(" + stranger + ", 1, 1)", x.put(stranger, 1, 1), NONE);
        }
        x.commit(1);
        x.open(0);
        due.is("saw the store's", x.put(3, 1, 7), 0);
    }

    private static void putIsBlocked() {
        Due due = new Due("promise 4");
        UndoStore x = Stores.withOpen(2);
        x.put(1, 1, 10);
        due.is("by a writer", x.put(2, 1, 20), BLOCKED);
        due.is("nothing happened: wrote", x.told(2, 3), 0);
        due.is("nothing happened: held", x.held(2, 1), 0);
        due.is("nothing happened: seen", x.get(1, 1), 10);
        x.get(1, 2);
        due.is("by a reader", x.put(2, 2, 20), BLOCKED);
        x.get(2, 3);
        due.is("not by itself", x.put(2, 3, 20), 1);
        due.is("read, then written", x.held(2, 3), 2);
        x.commit(1);
        due.is("no more", x.put(2, 1, 20), 0);
    }

    private static void take() {
        Due due = new Due("promise 5");
        UndoStore x = Stores.withNested(2);
        due.is("saw none", x.take(1, 1), 0);
        due.is("it writes all the same", x.told(1, 3), 1);
        due.is("and holds", x.held(1, 1), 2);
        x.put(1, 1, 5);
        due.is("saw its parent's", x.take(2, 1), 1);
        due.is("away already", x.take(2, 1), 0);
        due.is("blocked by a child", x.take(1, 1), BLOCKED);
        due.is("from the store", x.take(0, 1), NONE);
        x.commit(2);
        due.is("its child took it", x.take(1, 1), 0);
        due.is("ended", x.take(2, 1), NONE);
        for (int stranger : STRANGERS) {
            due.is("take(" + stranger + ", 1)", x.take(stranger, 1), NONE);
        }
        x.put(1, 1, 6);
        x.commit(1);
        x.open(0);
        due.is("saw the store's", x.take(3, 1), 1);
        due.is("the store has it still", x.get(0, 1), 6);
        x.commit(3);
        due.is("the store has it no more", x.get(0, 1), NOTHING);
    }

    private static void mark() {
        Due due = new Due("promise 6");
        UndoStore x = Stores.withOpen(2);
        due.is("first", x.mark(1), 0);
        due.is("second", x.mark(1), 1);
        due.is("another one's first", x.mark(2), 0);
        due.is("third", x.mark(1), 2);
        x.open(1);
        due.is("with an active child", x.mark(1), 3);
        due.is("the child's first", x.mark(3), 0);
        x.commit(3);
        due.is("a child's marks stay its own", x.mark(1), 4);
        x.back(1, 1);
        due.is("after going back", x.mark(1), 2);
        due.is("the store", x.mark(0), NONE);
        x.abort(2);
        due.is("aborted", x.mark(2), NONE);
        due.is("committed", x.mark(3), NONE);
        due.is("none such", x.mark(4), NONE);
        due.is("none such", x.mark(LEAST), NONE);
        due.is("none such", x.mark(MOST), NONE);
    }

    private static void back() {
        Due due = new Due("promise 7");
        UndoStore x = Stores.withOpen(1);
        due.is("no mark", x.back(1, 0), NONE);
        x.put(1, 1, 10);
        x.mark(1);
        x.put(1, 1, 11);
        x.mark(1);
        x.put(1, 2, 20);
        x.mark(1);
        due.is("nothing since", x.back(1, 2), 0);
        due.is("no such mark", x.back(1, 3), NONE);
        due.is("no such mark", x.back(1, -1), NONE);
        due.is("no such mark", x.back(1, LEAST), NONE);
        due.is("no such mark", x.back(1, MOST), NONE);
        due.is("one back", x.back(1, 1), 1);
        due.is("no more seen", x.get(1, 2), NOTHING);
        due.is("later marks are gone", x.told(1, 2), 2);
        due.is("gone", x.back(1, 2), NONE);
        due.is("the mark stays", x.back(1, 1), 0);
        due.is("to the first", x.back(1, 0), 1);
        due.is("as at the mark", x.get(1, 1), 10);
        due.is("what it holds stays", x.held(1, 2), 2);
        x.put(1, 3, 3);
        due.is("written after going back", x.back(1, 0), 1);
        x.open(1);
        due.is("active child", x.back(1, 0), NONE);
        x.abort(2);
        due.is("ended child", x.back(1, 0), 0);
        due.is("child's mark", x.back(2, 0), NONE);
        due.is("the store", x.back(0, 0), NONE);
        due.is("none such", x.back(3, 0), NONE);
        due.is("none such", x.back(-1, 0), NONE);
        x.commit(1);
        due.is("ended", x.back(1, 0), NONE);
        due.is("what was left", x.get(0, 1), 10);
    }

    private static void backOverCommits() {
        Due due = new Due("promise 7");
        UndoStore x = Stores.withNested(3);
        x.put(1, 1, 10);
        x.put(3, 2, 20);
        x.mark(1);
        x.put(3, 1, 11);
        x.commit(3);
        x.mark(2);
        x.put(2, 3, 30);
        due.is("child's writes came before the mark", x.back(2, 0), 1);
        due.is("they stay", x.get(2, 2), 20);
        x.commit(2);
        due.is("seen by the parent", x.sum(1, LEAST, MOST), 31);
        due.is("written before the mark, committed since", x.back(1, 0), 2);
        due.is("as at the mark", x.sum(1, LEAST, MOST), 10);
        due.is("wrote", x.told(1, 3), 1);
        due.is("holds the child's", x.told(1, 5), 3);
        x.open(1);
        x.put(4, 5, 50);
        x.commit(4);
        x.mark(1);
        due.is("committed before the mark", x.back(1, 1), 0);
        due.is("stays", x.get(1, 5), 50);
        due.is("the earlier mark", x.back(1, 0), 1);
        due.is("is gone", x.get(1, 5), NOTHING);
    }

    private static void backCountsNetChanges() {
        Due due = new Due("promise 7");
        UndoStore x = Stores.withNested(2);
        x.put(1, 1, 1);
        x.put(2, 2, 2);
        x.take(2, 3);
        x.mark(2);
        due.is("nothing written", x.back(2, 0), 0);
        x.put(2, 1, 1);
        due.is("wrote what it saw: whether it did changes", x.back(2, 0), 1);
        x.put(2, 2, 9);
        x.put(2, 2, 2);
        due.is("there and back", x.back(2, 0), 0);
        x.put(2, 3, 0);
        x.take(2, 3);
        due.is("away again", x.back(2, 0), 0);
        x.put(2, 3, 0);
        due.is("away or 0 is not the same", x.back(2, 0), 1);
        x.take(2, 2);
        due.is("a value or away", x.back(2, 0), 1);
        x.take(2, 7);
        due.is("away or not written", x.back(2, 0), 1);
        x.put(2, 2, 4);
        x.put(2, 2, 5);
        x.put(2, 2, 6);
        due.is("a key counts once", x.back(2, 0), 1);
        due.is("at the mark", x.get(2, 2), 2);
        due.is("away at the mark", x.get(2, 3), NOTHING);
    }

    private static void commit() {
        Due due = new Due("promise 8");
        UndoStore x = Stores.withNested(2);
        x.put(2, 1, 10);
        x.put(2, 1, 11);
        x.take(2, 2);
        x.get(2, 3);
        due.is("active child", x.commit(1), NONE);
        due.is("keys written", x.commit(2), 2);
        due.is("again", x.commit(2), NONE);
        due.is("the parent wrote it", x.told(1, 3), 2);
        due.is("the store not yet", x.get(0, 1), NOTHING);
        x.open(1);
        x.put(3, 1, 12);
        x.abort(3);
        due.is("an aborted child is no matter", x.commit(1), 2);
        due.is("in the store", x.get(0, 1), 11);
        x.open(0);
        due.is("nothing written", x.commit(4), 0);
        x.open(0);
        x.mark(5);
        x.put(5, 1, 1);
        x.back(5, 0);
        due.is("nothing left of it", x.commit(5), 0);
        due.is("the store is as before", x.get(0, 1), 11);
        due.is("aborted", x.commit(3), NONE);
        due.is("the store", x.commit(0), NONE);
        due.is("none such", x.commit(6), NONE);
        due.is("none such", x.commit(-1), NONE);
        due.is("none such", x.commit(MOST), NONE);
    }

    private static void commitHandsOverHolds() {
        Due due = new Due("promise 8");
        UndoStore x = Stores.withNested(2);
        x.open(0);
        x.get(1, 1);
        x.put(2, 1, 1);
        x.put(1, 2, 2);
        x.get(2, 2);
        x.get(2, 3);
        x.get(1, 4);
        x.get(2, 4);
        x.put(2, 5, 5);
        x.commit(2);
        due.is("read by it, written by the child", x.held(1, 1), 2);
        due.is("written by it, read by the child", x.held(1, 2), 2);
        due.is("read by the child", x.held(1, 3), 1);
        due.is("read by both", x.held(1, 4), 1);
        due.is("written by the child", x.held(1, 5), 2);
        due.is("for reading alone", x.told(1, 4), 2);
        due.is("for writing", x.told(1, 5), 3);
        due.is("in another one's way", x.blocker(3, 5, false), 1);
        x.commit(1);
        due.is("the store holds nothing", x.blocker(3, 5, true), 0);
        due.is("free to write", x.put(3, 3, 3), 1);
    }

    private static void abort() {
        Due due = new Due("promise 9");
        UndoStore x = Stores.withNested(3);
        x.open(2);
        x.open(1);
        x.open(0);
        x.put(3, 1, 1);
        x.put(1, 2, 2);
        x.put(5, 3, 3);
        x.commit(3);
        due.is("itself and one active child, not the committed one", x.abort(2), 2);
        due.is("committed stays so", x.state(3), 1);
        due.is("gone with its parent", x.get(1, 1), NOTHING);
        due.is("others stay active", x.state(5), 0);
        due.is("what others wrote stays", x.get(5, 3), 3);
        due.is("holds are gone", x.blocker(6, 1, false), 0);
        due.is("again", x.abort(2), NONE);
        due.is("committed", x.abort(3), NONE);
        due.is("the store", x.abort(0), NONE);
        due.is("none such", x.abort(7), NONE);
        due.is("none such", x.abort(-1), NONE);
        due.is("none such", x.abort(MOST), NONE);
        due.is("the rest", x.abort(1), 2);
        due.is("another one stays", x.state(6), 0);
        due.is("nothing came into the store", x.size(0), 0);
        due.is("a chain of 150", Stores.withNested(150).abort(1), 150);
        due.is("its end", Stores.withNested(150).abort(150), 1);
    }

    private static void state() {
        Due due = new Due("promise 10");
        UndoStore x = Stores.withOpen(2);
        due.is("active", x.state(1), 0);
        x.commit(1);
        due.is("committed", x.state(1), 1);
        x.open(2);
        x.abort(2);
        due.is("aborted", x.state(2), 2);
        due.is("aborted with its parent", x.state(3), 2);
        due.is("the store", x.state(0), NONE);
        due.is("none such", x.state(4), NONE);
        due.is("none such", x.state(-1), NONE);
        due.is("none such", x.state(LEAST), NONE);
        due.is("none such", x.state(MOST), NONE);
    }

    private static void told() {
        Due due = new Due("promise 11");
        UndoStore x = Stores.withNested(2);
        x.open(1);
        x.open(2);
        x.abort(3);
        x.put(1, 1, 1);
        x.take(1, 2);
        x.put(1, 1, 3);
        x.get(1, 3);
        x.get(1, 1);
        x.get(1, 4);
        x.get(1, 5);
        x.mark(1);
        x.mark(1);
        due.is("parent", x.told(1, 0), 0);
        due.is("parent", x.told(4, 0), 2);
        due.is("active children, no grandchildren", x.told(1, 1), 1);
        due.is("marks", x.told(1, 2), 2);
        due.is("keys written", x.told(1, 3), 2);
        due.is("held for reading alone", x.told(1, 4), 3);
        due.is("held for writing", x.told(1, 5), 2);
        due.is("child's marks", x.told(2, 2), 0);
        due.is("child wrote", x.told(2, 3), 0);
        due.is("child holds", x.told(2, 4) + x.told(2, 5), 0);
        due.is("others", x.told(1, 6), NONE);
        due.is("others", x.told(1, -1), NONE);
        due.is("others", x.told(1, LEAST), NONE);
        due.is("others", x.told(1, MOST), NONE);
        due.is("the store", x.told(0, 0), NONE);
        due.is("the store's children", x.told(0, 1), NONE);
        due.is("none such", x.told(5, 0), NONE);
        due.is("none such", x.told(-1, 0), NONE);
    }

    private static void toldOfThoseThatEnded() {
        Due due = new Due("promise 11");
        UndoStore x = Stores.withNested(3);
        for (int t = 1; t <= 3; t++) {
            x.put(t, t, t);
            x.get(t, 10 + t);
            x.mark(t);
        }
        x.commit(3);
        x.abort(2);
        for (int t = 2; t <= 3; t++) {
            due.is("parent of " + t, x.told(t, 0), t - 1);
            for (int what = 1; what <= 5; what++) {
                due.is("told(" + t + ", " + what + ")", x.told(t, what), 0);
            }
            due.is("others", x.told(t, 6), NONE);
        }
        x.commit(1);
        for (int what = 0; what <= 5; what++) {
            due.is("told(1, " + what + ")", x.told(1, what), 0);
        }
    }

    private static void held() {
        Due due = new Due("promise 12");
        UndoStore x = Stores.withNested(2);
        x.get(1, 1);
        x.put(1, 2, 2);
        x.take(1, 3);
        due.is("read", x.held(1, 1), 1);
        due.is("put", x.held(1, 2), 2);
        due.is("taken", x.held(1, 3), 2);
        due.is("neither", x.held(1, 4), 0);
        due.is("its parent does, it does not", x.held(2, 2), 0);
        x.put(1, 1, 1);
        due.is("read, then put", x.held(1, 1), 2);
        x.commit(2);
        due.is("ended", x.held(2, 1), NONE);
        due.is("the store", x.held(0, 1), NONE);
        due.is("none such", x.held(3, 1), NONE);
        due.is("none such", x.held(-1, 1), NONE);
        due.is("none such", x.held(MOST, 1), NONE);
    }

    private static void blocker() {
        Due due = new Due("promise 13");
        UndoStore x = Stores.withOpen(4);
        x.get(3, 1);
        x.get(2, 1);
        x.put(4, 2, 2);
        due.is("the least reader", x.blocker(1, 1, true), 2);
        due.is("without itself", x.blocker(2, 1, true), 3);
        due.is("readers let read", x.blocker(1, 1, false), 0);
        due.is("writers do not", x.blocker(1, 2, false), 4);
        due.is("nor let write", x.blocker(1, 2, true), 4);
        due.is("itself", x.blocker(4, 2, true), 0);
        due.is("a key of nobody", x.blocker(1, 3, true), 0);
        due.is("asking waits for nothing", x.waits(1), 0);
        due.is("asking holds nothing", x.told(1, 4) + x.told(1, 5), 0);
        x.abort(2);
        due.is("ended ones let go", x.blocker(1, 1, true), 3);
        due.is("ended", x.blocker(2, 1, true), NONE);
        due.is("the store", x.blocker(0, 1, true), NONE);
        due.is("none such", x.blocker(5, 1, true), NONE);
        due.is("none such", x.blocker(-1, 1, false), NONE);
        due.is("none such", x.blocker(MOST, 1, false), NONE);
    }

    private static void blockerLeavesOutAncestorsAlone() {
        Due due = new Due("promise 13");
        UndoStore x = Stores.withNested(3);
        x.open(1);
        x.put(1, 1, 1);
        due.is("grandparent", x.blocker(3, 1, true), 0);
        x.put(2, 1, 2);
        due.is("parent and grandparent", x.blocker(3, 1, true), 0);
        due.is("a parent's brother is no ancestor", x.blocker(4, 1, false), 2);
        due.is("a child is none", x.blocker(1, 1, false), 2);
        x.put(3, 1, 3);
        due.is("nor a grandchild", x.blocker(2, 1, false), 3);
        due.is("the least of two", x.blocker(4, 1, false), 2);
        x.commit(3);
        x.commit(2);
        due.is("now its parent alone", x.blocker(4, 1, true), 0);
        x.open(0);
        due.is("from outside", x.blocker(5, 1, false), 1);
    }

    private static void waits() {
        Due due = new Due("promise 14");
        UndoStore x = Stores.withOpen(5);
        due.is("not at first", x.waits(3), 0);
        x.get(2, 1);
        x.get(1, 1);
        x.put(3, 1, 1);
        due.is("the least", x.waits(3), 1);
        x.commit(1);
        due.is("whoever is in the way now", x.waits(3), 2);
        x.abort(2);
        due.is("none any more", x.waits(3), 0);
        x.get(4, 1);
        due.is("another one came", x.waits(3), 4);
        x.get(5, 1);
        x.commit(4);
        due.is("for writing, so readers count", x.waits(3), 5);
        x.put(5, 2, 2);
        x.get(3, 2);
        x.get(5, 3);
        due.is("for reading", x.waits(3), 5);
        x.abort(5);
        x.open(0);
        x.get(6, 2);
        due.is("for reading, so readers do not count", x.waits(3), 0);
        x.abort(3);
        due.is("ended", x.waits(3), NONE);
        due.is("the store", x.waits(0), NONE);
        due.is("none such", x.waits(7), NONE);
        due.is("none such", x.waits(-1), NONE);
        due.is("none such", x.waits(MOST), NONE);
    }

    private static void waitsEndWithTheNextCall() {
        Due due = new Due("promise 14");
        UndoStore x = Stores.withOpen(2);
        x.put(1, 1, 1);
        x.put(1, 2, 2);
        x.get(2, 1);
        x.mark(2);
        x.back(2, 0);
        x.open(2);
        x.abort(3);
        x.get(0, 1);
        x.get(1, 1);
        due.is("neither marks nor others' calls end it", x.waits(2), 1);
        x.get(2, 5);
        due.is("a read does", x.waits(2), 0);
        x.take(2, 1);
        due.is("blocked again", x.waits(2), 1);
        x.put(2, 6, 6);
        due.is("a put does", x.waits(2), 0);
        x.put(2, 2, 2);
        due.is("blocked again", x.waits(2), 1);
        x.take(2, 7);
        due.is("a take does", x.waits(2), 0);
        x.get(2, 1);
        x.open(1);
        x.put(4, 2, 3);
        due.is("the one key", x.waits(2), 1);
        x.put(2, 8, 8);
        x.open(0);
        x.put(5, 3, 3);
        x.get(2, 1);
        x.get(2, 3);
        due.is("the last wish counts", x.waits(2), 5);
    }

    private static void ring() {
        Due due = new Due("promise 15");
        UndoStore x = Stores.withOpen(4);
        for (int t = 1; t <= 4; t++) {
            x.put(t, t, t);
        }
        due.is("nobody waits", x.ring(), 0);
        x.get(4, 3);
        x.get(3, 2);
        due.is("a chain", x.ring(), 0);
        x.put(2, 4, 1);
        due.is("three", x.ring(), 2);
        x.get(1, 2);
        due.is("one that waits for a ring is not in it", x.ring(), 2);
        x.get(4, 1);
        due.is("the ring goes through 1 now", x.ring(), 1);
        x.get(1, 9);
        due.is("1 waits no more", x.ring(), 0);
        x.get(4, 3);
        due.is("three again", x.ring(), 2);
        x.abort(3);
        due.is("broken", x.ring(), 0);
    }

    private static void ringIsNoTail() {
        Due due = new Due("promise 15");
        UndoStore x = Stores.withNested(2);
        x.put(2, 1, 1);
        x.get(1, 1);
        due.is("a parent waits for its child alone", x.ring(), 0);
        x.open(0);
        x.put(3, 2, 2);
        x.get(2, 2);
        x.put(3, 1, 1);
        due.is("2 and 3", x.ring(), 2);
        x.commit(2);
        due.is("1 took over the hold, not the wish", x.ring(), 0);
        x.get(1, 2);
        due.is("1 and 3", x.ring(), 1);
        x.abort(3);
        due.is("none", x.ring(), 0);
        UndoStore y = Stores.withOpen(4);
        y.put(1, 1, 1);
        y.get(2, 2);
        y.get(3, 2);
        y.get(4, 1);
        y.get(3, 1);
        y.put(1, 2, 1);
        due.is("through the second of those in the way", y.ring(), 1);
    }

    private static void ringWithMany() {
        Due due = new Due("promise 15");
        UndoStore x = Stores.withOpen(150);
        for (int t = 1; t <= 150; t++) {
            x.put(t, t, t);
        }
        for (int t = 3; t < 150; t++) {
            x.get(t, t + 1);
        }
        due.is("a chain", x.ring(), 0);
        x.get(150, 64);
        due.is("64 to 150", x.ring(), 64);
        x.get(150, 128);
        due.is("128 to 150", x.ring(), 128);
        x.get(150, 3);
        due.is("3 to 150", x.ring(), 3);
        x.get(150, 149);
        due.is("the last two", x.ring(), 149);
    }

    private static void size() {
        Due due = new Due("promise 16");
        UndoStore x = Stores.withNested(2);
        x.put(1, 1, 1);
        x.put(1, 2, 2);
        x.get(1, 7);
        x.put(2, 2, 3);
        x.put(2, 3, 3);
        due.is("its own and its parent's", x.size(2), 3);
        due.is("without its child's", x.size(1), 2);
        x.take(2, 1);
        x.take(2, 9);
        due.is("without those away", x.size(2), 2);
        due.is("the store", x.size(0), 0);
        x.commit(2);
        x.commit(1);
        due.is("the store", x.size(0), 2);
        x.open(0);
        due.is("as the store", x.size(3), 2);
        x.take(3, 2);
        due.is("less than the store", x.size(3), 1);
        due.is("the store", x.size(0), 2);
        due.is("ended", x.size(2), NONE);
        due.is("none such", x.size(4), NONE);
        due.is("none such", x.size(-1), NONE);
        due.is("none such", x.size(MOST), NONE);
    }

    private static void next() {
        Due due = new Due("promise 17");
        UndoStore x = Stores.withNested(2);
        x.put(1, 10, 1);
        x.put(1, LEAST, 1);
        x.put(1, MOST, 1);
        x.put(2, -5, 1);
        x.take(2, 10);
        due.is("above the least", x.next(2, LEAST), -5);
        due.is("its own are left out", x.next(2, -5), MOST);
        due.is("just below", x.next(2, -6), -5);
        due.is("none above the most", x.next(2, MOST), NOTHING);
        due.is("without its child's", x.next(1, LEAST), 10);
        due.is("just below", x.next(1, 9), 10);
        due.is("just there", x.next(1, 10), MOST);
        due.is("the store", x.next(0, LEAST), NOTHING);
        x.commit(2);
        x.commit(1);
        due.is("the store", x.next(0, LEAST), -5);
        due.is("ended", x.next(1, 0), REFUSED);
        due.is("none such", x.next(3, 0), REFUSED);
        due.is("none such", x.next(-1, 0), REFUSED);
        due.is("none such", x.next(MOST, 0), REFUSED);
    }

    private static void sum() {
        Due due = new Due("promise 18");
        UndoStore x = Stores.withNested(2);
        x.put(1, 1, MOST);
        x.put(1, 2, MOST);
        x.put(1, LEAST, LEAST);
        x.put(1, MOST, 5);
        x.put(2, 2, -3);
        due.is("all", x.sum(1, LEAST, MOST), 2L * MOST + LEAST + 5);
        due.is("more than an int", x.sum(1, 1, 2), 2L * MOST);
        due.is("its own before its parent's", x.sum(2, 1, 2), (long) MOST - 3);
        due.is("one", x.sum(1, 1, 1), MOST);
        due.is("the ends count", x.sum(1, 2, MOST), (long) MOST + 5);
        due.is("the ends count", x.sum(1, LEAST, 0), LEAST);
        due.is("between keys", x.sum(1, 3, MOST - 1), 0);
        due.is("low above high", x.sum(1, 2, 1), 0);
        x.take(2, 1);
        due.is("without those away", x.sum(2, 1, 2), -3);
        due.is("the store", x.sum(0, LEAST, MOST), 0);
        x.commit(2);
        x.commit(1);
        due.is("the store", x.sum(0, LEAST, MOST), (long) LEAST + 5 - 3);
        due.is("ended", x.sum(1, 0, 9), REFUSED);
        due.is("none such", x.sum(3, 0, 9), REFUSED);
        due.is("none such", x.sum(-1, 0, 9), REFUSED);
        due.is("none such, low above high", x.sum(MOST, 9, 0), REFUSED);
    }

    private static void looksHoldNothing() {
        Due due = new Due("promises 16 to 18");
        UndoStore x = Stores.withOpen(2);
        x.put(1, 1, 1);
        x.put(2, 2, 2);
        x.get(2, 1);
        due.is("size is not blocked", x.size(2), 1);
        due.is("next is not blocked", x.next(2, 0), 2);
        due.is("sum is not blocked", x.sum(2, 0, 9), 2);
        due.is("they read no key, so it waits still", x.waits(2), 1);
        due.is("they hold nothing", x.told(2, 4), 0);
        due.is("nobody is in the way", x.blocker(1, 3, true), 0);
    }

    /** As many keys as calls allow, and as many that are only read. */
    private static void manyKeys() {
        Due due = new Due("many keys");
        UndoStore x = Stores.withOpen(1);
        for (int i = 0; i < 505; i++) {
            due.is("put", x.put(1, i * 8_000_000 + LEAST, MOST), 1);
        }
        due.is("size", x.size(1), 505);
        due.is("sum", x.sum(1, LEAST, MOST), 505L * MOST);
        due.is("next", x.next(1, LEAST), LEAST + 8_000_000);
        due.is("held for writing", x.told(1, 5), 505);
        due.is("commit", x.commit(1), 505);
        due.is("size", x.size(0), 505);
        UndoStore y = Stores.withOpen(1);
        for (int i = 0; i < 509; i++) {
            due.is("get", y.get(1, -i), NOTHING);
        }
        due.is("held for reading", y.told(1, 4), 509);
        due.is("the 512th call", y.put(1, 1, 1), 1);
        UndoStore z = Stores.withOpen(1);
        for (int i = 0; i < 510; i++) {
            due.is("mark", z.mark(1), i);
        }
        due.is("the 512th call", z.back(1, 509), 0);
    }

    private static void objectsAreApart() {
        Due due = new Due("two objects");
        UndoStore x = Stores.withOpen(1);
        UndoStore y = Stores.withOpen(1);
        x.put(1, 1, 1);
        due.is("sees nothing of the other one", y.get(1, 1), NOTHING);
        due.is("holds its own", y.put(1, 1, 2), 1);
        x.commit(1);
        due.is("store of the other one", y.size(0), 0);
        due.is("own store", x.get(0, 1), 1);
    }
}
