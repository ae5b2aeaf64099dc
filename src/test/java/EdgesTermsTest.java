/** 'What it is' and 'Terms': a test for each sentence of theirs that names a boundary case. */
public final class EdgesTermsTest {
    private static final int NONE = UndoStore.NONE;
    private static final int BLOCKED = UndoStore.BLOCKED;
    private static final long NOTHING = UndoStore.NOTHING;
    private static final long HELD = UndoStore.HELD;
    private static final int LEAST = Stores.LEAST;
    private static final int MOST = Stores.MOST;
    private static final int CALLS = 512;

    public static void main(String[] args) {
        constantsAreNoValues();
        callsAllOpenOrPut();
        callsAllReads();
        callsAllWritesOfOneKey();
        callsAllMarksAndBacks();
        callsAllTransactionsWriteAndCommit();
        seesWhatItWroteOrItsParentSees();
        holdsUntilItEnds();
        inTheWayOfReading();
        inTheWayOfWriting();
        ancestorsAreLeftOut();
        waitsForWhatItWanted();
        waitsUntilItsEnd();
        waitsForAllInTheWay();
        ringThroughAnyInTheWay();
        Due.close();
    }

    private static void constantsAreNoValues() {
        Due due = new Due("the constants (promises 3, 17 and 18)");
        UndoStore x = Stores.withOpen(1);
        for (int value : new int[] {LEAST, MOST, UndoStore.NONE, UndoStore.BLOCKED, 0}) {
            x.put(1, value, value);
            due.is("a value is itself", x.get(1, value), value);
            due.is("a key is itself", x.next(1, value == LEAST ? LEAST : value - 1),
                    value == LEAST ? NOTHING : value);
        }
        due.is("a sum is itself", x.sum(1, UndoStore.BLOCKED, UndoStore.NONE), -3);
        due.is("NONE", UndoStore.NONE, -1);
        due.is("BLOCKED", UndoStore.BLOCKED, -2);
        due.is("NOTHING", UndoStore.NOTHING, 1L << 40);
        due.is("HELD", UndoStore.HELD, 1L << 41);
        due.is("REFUSED", UndoStore.REFUSED, 1L << 42);
    }

    private static void callsAllOpenOrPut() {
        Due due = new Due("512 calls (promises 2 and 4)");
        UndoStore x = Stores.withOpen(1);
        for (int call = 2; call < CALLS; call++) {
            due.is("put", x.put(1, MOST - call, call), 1);
        }
        due.is("the 512th call", x.put(1, LEAST, 1), 1);
        UndoStore y = new UndoStore();
        for (int call = 1; call <= CALLS; call++) {
            due.is("open", y.open(0), call <= 150 ? call : NONE);
        }
    }

    private static void callsAllReads() {
        Due due = new Due("512 calls (promise 3)");
        UndoStore x = Stores.withOpen(1);
        for (int call = 2; call < CALLS - 1; call++) {
            due.is("get", x.get(1, LEAST + call), NOTHING);
        }
        due.is("the 511th call", x.get(1, MOST), NOTHING);
        due.is("the 512th call", x.told(1, 4), CALLS - 2);
        UndoStore y = Stores.withOpen(150);
        for (int t = 1; t <= 150; t++) {
            y.get(t, 1);
            y.get(t, t + 1);
        }
        for (int call = 451; call < CALLS; call++) {
            due.is("many hold it", y.put(150, 1, 1), BLOCKED);
        }
        due.is("the 512th call", y.waits(150), 1);
    }

    private static void callsAllWritesOfOneKey() {
        Due due = new Due("512 calls (promises 4, 5 and 7)");
        UndoStore x = Stores.withOpen(1);
        x.put(1, 1, 1);
        x.mark(1);
        for (int call = 4; call < CALLS; call++) {
            due.is("call " + call, call % 2 == 0 ? x.take(1, 1) : x.put(1, 1, call), 1);
        }
        due.is("a value again: the 512th call", x.back(1, 0), 1);
    }

    private static void callsAllMarksAndBacks() {
        Due due = new Due("512 calls (promises 6 and 7)");
        UndoStore x = Stores.withOpen(1);
        x.mark(1);
        for (int call = 3; call + 2 < CALLS; call += 3) {
            due.is("mark", x.mark(1), 1);
            due.is("put", x.put(1, call, call), 1);
            due.is("back", x.back(1, 0), 1);
        }
        due.is("nothing is left", x.size(1), 0);
    }

    private static void callsAllTransactionsWriteAndCommit() {
        Due due = new Due("512 calls (promises 2 to 9)");
        UndoStore x = new UndoStore();
        for (int t = 1; t <= 150; t++) {
            due.is("open", x.open(t / 2), t);
            due.is("put", x.put(t, -t, t), 1);
        }
        for (int t = 150; t >= 1; t--) {
            due.is("its own key and its children's", x.commit(t), keysBelow(t));
        }
        due.is("all are in the store", x.size(0), 150);
        due.is("their sum", x.sum(0, -150, -1), 150 * 151 / 2);
        due.is("their least", x.next(0, LEAST), -150);
    }

    /** How many of 1 to 150 are t or below it, when t lies in t / 2. */
    private static int keysBelow(int t) {
        return t > 150 ? 0 : 1 + keysBelow(2 * t) + keysBelow(2 * t + 1);
    }

    private static void seesWhatItWroteOrItsParentSees() {
        Due due = new Due("sees: what it wrote; where it wrote nothing, what its parent sees");
        UndoStore x = Stores.withNested(3);
        x.put(1, 1, 1);
        due.is("through one that wrote nothing", x.sum(3, 1, 1), 1);
        x.take(2, 1);
        due.is("that the key is away is written, too", x.get(3, 1), NOTHING);
        x.put(3, 1, 3);
        due.is("its own", x.get(3, 1), 3);
        due.is("its parent sees its own", x.size(2), 0);
        due.is("that one's parent sees its own", x.sum(1, 1, 1), 1);
        due.is("0 sees the store", x.get(0, 1), NOTHING);
        x.put(1, 2, 2);
        due.is("what its parent writes later is seen, too", x.get(3, 2), 2);
        x.open(0);
        x.put(4, 5, 5);
        x.commit(4);
        due.is("and what the store has later", x.get(3, 5), 5);
    }

    private static void holdsUntilItEnds() {
        Due due = new Due("holding: until it ends (promises 8, 9 and 12)");
        UndoStore x = Stores.withOpen(3);
        x.get(1, 1);
        x.put(2, 2, 2);
        x.mark(1);
        x.back(1, 0);
        x.get(1, 3);
        due.is("read", x.held(1, 1), 1);
        due.is("written", x.held(2, 2), 2);
        due.is("blocked by the one", x.put(3, 1, 1), BLOCKED);
        due.is("blocked by the other", x.get(3, 2), HELD);
        x.commit(1);
        due.is("the one committed", x.put(3, 1, 1), 1);
        due.is("not the other one", x.get(3, 2), HELD);
        x.abort(2);
        due.is("the other one was aborted", x.get(3, 2), NOTHING);
    }

    private static void inTheWayOfReading() {
        Due due = new Due("in the way of reading: all others that hold it for writing (promise 3)");
        UndoStore x = Stores.withOpen(4);
        x.put(1, 1, 1);
        x.take(2, 2);
        x.get(3, 3);
        due.is("one that put", x.get(4, 1), HELD);
        due.is("one that took away", x.get(4, 2), HELD);
        due.is("not one that read", x.get(4, 3), NOTHING);
        due.is("not itself", x.get(1, 1), 1);
        due.is("not when it holds another key", x.get(4, 4), NOTHING);
    }

    private static void inTheWayOfWriting() {
        Due due = new Due("in the way of writing: those that hold it for reading, too (promise 4)");
        UndoStore x = Stores.withOpen(4);
        x.put(1, 1, 1);
        x.take(2, 2);
        x.get(3, 3);
        for (int key = 1; key <= 3; key++) {
            due.is("put of key " + key, x.put(4, key, 0), BLOCKED);
            due.is("the least", x.waits(4), key);
            due.is("take of key " + key, x.take(4, key), BLOCKED);
            due.is("the least", x.waits(4), key);
        }
        due.is("not itself", x.put(3, 3, 3), 1);
        due.is("not when it holds another key", x.put(4, 4, 4), 1);
    }

    private static void ancestorsAreLeftOut() {
        Due due = new Due("in the way: its ancestors left out (promise 13)");
        UndoStore x = Stores.withNested(149);
        x.open(148);
        for (int t = 1; t <= 148; t++) {
            x.put(t, 1, t);
        }
        due.is("148 ancestors", x.blocker(149, 1, true), 0);
        due.is("148 ancestors", x.blocker(150, 1, true), 0);
        due.is("it can write", x.put(149, 1, 149), 0);
        due.is("its brother is none of them", x.blocker(150, 1, true), 149);
        due.is("descendants are none of them", x.blocker(1, 1, true), 2);
        due.is("the last ancestor", x.blocker(148, 1, true), 149);
        x.commit(149);
        due.is("its parent holds it", x.put(150, 1, 150), 0);
    }

    private static void waitsForWhatItWanted() {
        Due due = new Due("waits: for what it wanted (promise 14)");
        UndoStore x = Stores.withOpen(4);
        x.put(1, LEAST, 1);
        x.get(3, LEAST);
        due.is("to read it waits for the writer", x.waits(3), 1);
        x.commit(1);
        x.get(2, LEAST);
        due.is("a reader is not in its way", x.waits(3), 0);
        x.put(4, LEAST, 2);
        due.is("to write another one waits for the reader", x.waits(4), 2);
        x.put(2, LEAST, 3);
        due.is("a writer is in the way of both", x.waits(3), 2);
        due.is("a writer is in the way of both", x.waits(4), 2);
        due.is("and does not wait", x.waits(2), 0);
    }

    private static void waitsUntilItsEnd() {
        Due due = new Due("waits: until its end (promises 14 and 15)");
        UndoStore x = Stores.withOpen(2);
        x.open(2);
        x.put(1, 1, 1);
        x.put(3, 2, 2);
        x.get(3, 1);
        x.get(1, 2);
        due.is("a ring", x.ring(), 1);
        x.commit(3);
        due.is("its end", x.waits(3), NONE);
        due.is("its parent holds, but does not wait", x.waits(2), 0);
        due.is("the other one waits for the parent", x.waits(1), 2);
        due.is("no ring", x.ring(), 0);
        x.get(2, 1);
        due.is("a ring again", x.ring(), 1);
        x.abort(2);
        due.is("its end", x.waits(2), NONE);
        due.is("no ring again", x.ring(), 0);
    }

    private static void waitsForAllInTheWay() {
        Due due = new Due("waits: for all that are in the way whenever it is asked (promise 14)");
        UndoStore x = Stores.withOpen(4);
        x.get(2, 1);
        x.get(3, 1);
        x.put(4, 1, 1);
        due.is("2 and 3", x.waits(4), 2);
        x.get(1, 1);
        due.is("1, 2 and 3", x.waits(4), 1);
        x.abort(2);
        due.is("1 and 3", x.waits(4), 1);
        x.commit(1);
        due.is("3", x.waits(4), 3);
        x.abort(3);
        due.is("perhaps none any more", x.waits(4), 0);
    }

    private static void ringThroughAnyInTheWay() {
        Due due = new Due("a ring: it waits for each one that is in the way (promise 15)");
        for (int through = 1; through <= 3; through++) {
            UndoStore x = Stores.withOpen(4);
            for (int t = 1; t <= 3; t++) {
                x.get(t, 1);
            }
            x.put(4, 2, 2);
            x.put(4, 1, 1);
            due.is("no ring", x.ring(), 0);
            x.get(through, 2);
            due.is("through " + through, x.ring(), through);
        }
    }
}
