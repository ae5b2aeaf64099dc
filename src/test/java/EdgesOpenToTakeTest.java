/** Promises 1 to 5: a test for each sentence of theirs that names a boundary case. */
public final class EdgesOpenToTakeTest {
    private static final int NONE = UndoStore.NONE;
    private static final int BLOCKED = UndoStore.BLOCKED;
    private static final long NOTHING = UndoStore.NOTHING;
    private static final long HELD = UndoStore.HELD;
    private static final long REFUSED = UndoStore.REFUSED;
    private static final int LEAST = Stores.LEAST;
    private static final int MOST = Stores.MOST;
    private static final int[] EDGES = {LEAST, LEAST + 1, -1, 0, 1, MOST - 1, MOST};

    public static void main(String[] args) {
        promise1EmptyStore();
        promise1NoTransactions();
        promise2ItsNumber();
        promise2ParentNeither0NorActive();
        promise2ParentIsTheNextNumber();
        promise2FullAt150();
        promise2FullAlsoWhenAllEnded();
        promise3Value();
        promise3NothingWhenThereIsNone();
        promise3HeldWhenBlocked();
        promise3NotBlockedByReaders();
        promise3RefusedWhenNotActive();
        promise3StoreHasWhatWasCommitted();
        promise3StoreHoldsNothing();
        promise4OneWhenItSawNone();
        promise4ZeroWhenItSawOne();
        promise4Blocked();
        promise4BlockedChangesNothing();
        promise4NoneWhenNotActive();
        promise5OneWhenItSawOne();
        promise5ZeroWhenItSawNone();
        promise5WritesAlsoIfItSawNone();
        promise5Blocked();
        promise5BlockedChangesNothing();
        promise5NoneWhenNotActive();
        Due.close();
    }

    private static void promise1EmptyStore() {
        Due due = new Due("promise 1: an empty store");
        UndoStore x = new UndoStore();
        due.is("size(0)", x.size(0), 0);
        for (int key : EDGES) {
            due.is("get(0, " + key + ")", x.get(0, key), NOTHING);
            due.is("next(0, " + key + ")", x.next(0, key), NOTHING);
            due.is("sum(0, " + key + ", most)", x.sum(0, key, MOST), 0);
        }
        due.is("open(0)", x.open(0), 1);
        due.is("size(1)", x.size(1), 0);
        for (int key : EDGES) {
            due.is("get(1, " + key + ")", x.get(1, key), NOTHING);
        }
        due.is("size(1) after reading", x.size(1), 0);
        due.is("commit(1)", x.commit(1), 0);
        due.is("size(0) after an empty commit", x.size(0), 0);
    }

    private static void promise1NoTransactions() {
        Due due = new Due("promise 1: no transactions");
        UndoStore x = new UndoStore();
        for (int t : new int[] {1, 2, 150, -1, LEAST, MOST}) {
            due.is("state(" + t + ")", x.state(t), NONE);
            due.is("told(" + t + ", 0)", x.told(t, 0), NONE);
            due.is("held(" + t + ", 0)", x.held(t, 0), NONE);
            due.is("blocker(" + t + ", 0, true)", x.blocker(t, 0, true), NONE);
            due.is("waits(" + t + ")", x.waits(t), NONE);
            due.is("get(" + t + ", 0)", x.get(t, 0), REFUSED);
            due.is("put(" + t + ", 0, 0)", x.put(t, 0, 0), NONE);
            due.is("take(" + t + ", 0)", x.take(t, 0), NONE);
            due.is("mark(" + t + ")", x.mark(t), NONE);
            due.is("back(" + t + ", 0)", x.back(t, 0), NONE);
            due.is("commit(" + t + ")", x.commit(t), NONE);
            due.is("abort(" + t + ")", x.abort(t), NONE);
            due.is("size(" + t + ")", x.size(t), NONE);
            due.is("next(" + t + ", 0)", x.next(t, 0), REFUSED);
            due.is("sum(" + t + ", 0, 0)", x.sum(t, 0, 0), REFUSED);
        }
        due.is("ring()", x.ring(), 0);
    }

    private static void promise2ItsNumber() {
        Due due = new Due("promise 2: one more transaction: its number");
        UndoStore x = new UndoStore();
        due.is("the first", x.open(0), 1);
        due.is("refused", x.open(9), NONE);
        due.is("a refused call uses no number", x.open(1), 2);
        x.abort(1);
        due.is("numbers of ended ones are not used again", x.open(0), 3);
        due.is("it is active", x.state(3), 0);
        due.is("in the store", x.told(3, 0), 0);
        due.is("in another one", x.told(2, 0), 1);
    }

    private static void promise2ParentNeither0NorActive() {
        Due due = new Due("promise 2: NONE when its parent is neither 0 nor active");
        UndoStore x = Stores.withEnded();
        String before = Picture.of(x, 7, 1, 6);
        for (int parent : Stores.NOT_ACTIVE) {
            due.is("open(" + parent + ")", x.open(parent), NONE);
        }
        due.same("nothing changed", Picture.of(x, 7, 1, 6), before);
        due.is("0 is no such parent", x.open(0), 7);
        due.is("nor is an active one", x.open(6), 8);
    }

    private static void promise2ParentIsTheNextNumber() {
        Due due = new Due("promise 2: NONE when its parent is not there yet");
        UndoStore x = new UndoStore();
        for (int number = 1; number <= 150; number++) {
            due.is("open(" + number + ") before it is there", x.open(number), NONE);
            due.is("open(" + (number - 1) + ")", x.open(number - 1), number);
        }
    }

    private static void promise2FullAt150() {
        Due due = new Due("promise 2: NONE when 150 were opened");
        UndoStore x = Stores.withOpen(148);
        due.is("the 149th", x.open(0), 149);
        due.is("the 150th", x.open(149), 150);
        due.is("the 151st", x.open(0), NONE);
        due.is("the 151st in another one", x.open(150), NONE);
        due.is("the 151st in none", x.open(151), NONE);
        due.is("no 151st is there", x.state(151), NONE);
        due.is("the 150th has no child", x.told(150, 1), 0);
        due.is("the 150th can be used", x.put(150, LEAST, MOST), 1);
        due.is("and sees", x.get(150, LEAST), MOST);
        due.is("and marks", x.mark(150), 0);
        due.is("and commits", x.commit(150), 1);
    }

    private static void promise2FullAlsoWhenAllEnded() {
        Due due = new Due("promise 2: NONE when 150 were opened, active or not");
        UndoStore x = new UndoStore();
        for (int t = 1; t <= 150; t++) {
            due.is("open(0)", x.open(0), t);
            due.is("its end", t % 2 == 0 ? x.commit(t) : x.abort(t), t % 2 == 0 ? 0 : 1);
        }
        due.is("the 151st", x.open(0), NONE);
        due.is("state(150)", x.state(150), 1);
        due.is("state(149)", x.state(149), 2);
    }

    private static void promise3Value() {
        Due due = new Due("promise 3: the value that the transaction sees");
        UndoStore x = Stores.withNested(2);
        for (int key : EDGES) {
            for (int value : EDGES) {
                x.put(1, key, value);
                due.is("value " + value + " of key " + key, x.get(1, key), value);
            }
        }
        for (int key : EDGES) {
            due.is("its parent's, key " + key, x.get(2, key), MOST);
            x.put(2, key, key);
        }
        for (int key : EDGES) {
            due.is("its own, key " + key, x.get(2, key), key);
        }
        UndoStore deep = Stores.withNested(150);
        deep.put(1, 7, -1);
        due.is("150 deep", deep.get(150, 7), -1);
    }

    private static void promise3NothingWhenThereIsNone() {
        Due due = new Due("promise 3: NOTHING when there is none");
        UndoStore x = Stores.withNested(2);
        due.is("nobody wrote it", x.get(2, 1), NOTHING);
        x.take(2, 2);
        due.is("it took away what was not there", x.get(2, 2), NOTHING);
        x.put(2, 3, 0);
        x.take(2, 3);
        due.is("it took away its own", x.get(2, 3), NOTHING);
        x.put(1, 4, 0);
        x.take(2, 4);
        due.is("it took away its parent's", x.get(2, 4), NOTHING);
        x.put(1, 5, 0);
        x.take(1, 5);
        due.is("its parent took it away", x.get(2, 5), NOTHING);
        x.mark(2);
        x.put(2, 6, 0);
        x.back(2, 0);
        due.is("it went back", x.get(2, 6), NOTHING);
        x.put(2, 7, 0);
        x.abort(2);
        due.is("its child was aborted", x.get(1, 7), NOTHING);
        due.is("another key is there", x.get(1, 4), 0);
    }

    private static void promise3HeldWhenBlocked() {
        Due due = new Due("promise 3: HELD when it is blocked");
        UndoStore x = Stores.withNested(3);
        x.open(1);
        x.open(0);
        x.put(3, 1, 1);
        String before = Picture.withoutWaits(x, 5, 1);
        due.is("by a child", x.get(2, 1), HELD);
        due.is("by a grandchild", x.get(1, 1), HELD);
        due.is("by a brother's child", x.get(4, 1), HELD);
        due.is("by one in another one", x.get(5, 1), HELD);
        due.same("nothing happened", Picture.withoutWaits(x, 5, 1), before);
        due.is("but that it waits", x.waits(5), 3);
        due.is("not by itself", x.get(3, 1), 1);
        x.take(5, 2);
        due.is("by one that took a key away that was not there", x.get(4, 2), HELD);
        x.commit(3);
        due.is("the child's hold is its own", x.get(2, 1), 1);
        x.commit(2);
        due.is("not by an ancestor", x.get(4, 1), 1);
    }

    private static void promise3NotBlockedByReaders() {
        Due due = new Due("promise 3: those that hold a key for reading do not block reading");
        UndoStore x = Stores.withOpen(150);
        for (int t = 1; t <= 150; t++) {
            due.is("get(" + t + ", 1)", x.get(t, 1), NOTHING);
        }
        due.is("held(1, 1)", x.held(1, 1), 1);
        due.is("held(150, 1)", x.held(150, 1), 1);
    }

    private static void promise3RefusedWhenNotActive() {
        Due due = new Due("promise 3: REFUSED when it is not active");
        UndoStore x = Stores.withEnded();
        String before = Picture.of(x, 7, 1, 6);
        for (int t : Stores.NOT_ACTIVE) {
            due.is("get(" + t + ", 6)", x.get(t, 6), REFUSED);
            due.is("get(" + t + ", 1), though it is held", x.get(t, 1), REFUSED);
        }
        due.same("nothing changed", Picture.of(x, 7, 1, 6), before);
        due.is("an active one is not refused", x.get(1, 6), 60);
    }

    private static void promise3StoreHasWhatWasCommitted() {
        Due due = new Due("promise 3: for 0 what the store has");
        UndoStore x = Stores.withNested(2);
        due.is("nothing yet", x.get(0, MOST), NOTHING);
        x.put(2, MOST, LEAST);
        x.commit(2);
        due.is("1 has it, not the store", x.get(0, MOST), NOTHING);
        x.commit(1);
        due.is("the store", x.get(0, MOST), LEAST);
        x.open(0);
        x.take(3, MOST);
        due.is("taken away, not yet committed", x.get(0, MOST), LEAST);
        x.commit(3);
        due.is("the store has it no more", x.get(0, MOST), NOTHING);
    }

    private static void promise3StoreHoldsNothing() {
        Due due = new Due("promise 3: for 0 nothing is held");
        UndoStore x = Stores.withOpen(2);
        x.put(1, 1, 1);
        due.is("0 is never blocked", x.get(0, 1), NOTHING);
        due.is("0 reads a key of nobody", x.get(0, 2), NOTHING);
        due.is("nobody is in the way of a writer", x.blocker(2, 2, true), 0);
        due.is("who can write", x.put(2, 2, 2), 1);
        due.is("0 holds nothing", x.held(0, 2), NONE);
        due.is("0 does not wait", x.waits(0), NONE);
    }

    private static void promise4OneWhenItSawNone() {
        Due due = new Due("promise 4: 1 when it saw none before");
        UndoStore x = Stores.withNested(2);
        for (int key : EDGES) {
            due.is("key " + key, x.put(1, key, 0), 1);
        }
        x.take(1, 0);
        due.is("its parent took it away", x.put(2, 0, 0), 1);
        x.take(2, 1);
        due.is("it took it away", x.put(2, 1, 0), 1);
        x.mark(2);
        x.put(2, 5, 5);
        x.back(2, 0);
        due.is("it went back", x.put(2, 5, 5), 1);
    }

    private static void promise4ZeroWhenItSawOne() {
        Due due = new Due("promise 4: otherwise 0");
        UndoStore x = Stores.withNested(3);
        x.put(1, MOST, 0);
        due.is("its own, the same value", x.put(1, MOST, 0), 0);
        due.is("its parent's parent's", x.put(3, MOST, MOST), 0);
        due.is("its own", x.put(3, MOST, LEAST), 0);
        x.commit(3);
        due.is("its child's", x.put(2, MOST, 5), 0);
        x.commit(2);
        x.commit(1);
        x.open(0);
        due.is("the store's", x.put(4, MOST, 6), 0);
        due.is("and it wrote that", x.get(4, MOST), 6);
    }

    private static void promise4Blocked() {
        Due due = new Due("promise 4: BLOCKED");
        UndoStore x = Stores.withNested(3);
        x.open(1);
        x.open(0);
        x.get(3, 1);
        x.put(3, 2, 2);
        for (int key = 1; key <= 2; key++) {
            due.is("by a child, key " + key, x.put(2, key, 0), BLOCKED);
            due.is("by a grandchild, key " + key, x.put(1, key, 0), BLOCKED);
            due.is("by a brother's child, key " + key, x.put(4, key, 0), BLOCKED);
            due.is("by one in another one, key " + key, x.put(5, key, 0), BLOCKED);
        }
        due.is("not by itself, which reads", x.put(3, 1, 0), 1);
        due.is("not by itself, which writes", x.put(3, 2, 0), 0);
        x.get(1, 3);
        x.put(1, 4, 4);
        due.is("not by an ancestor that reads", x.put(3, 3, 0), 1);
        due.is("not by an ancestor that writes", x.put(3, 4, 0), 0);
    }

    private static void promise4BlockedChangesNothing() {
        Due due = new Due("promise 4: BLOCKED: nothing happens, but that it waits");
        UndoStore x = Stores.withOpen(2);
        x.put(1, 1, 1);
        x.get(2, 2);
        x.get(1, 2);
        String before = Picture.withoutWaits(x, 2, 1, 2, 3);
        due.is("by a writer", x.put(2, 1, 9), BLOCKED);
        due.is("it waits", x.waits(2), 1);
        due.is("by a reader", x.put(2, 2, 9), BLOCKED);
        due.is("it waits", x.waits(2), 1);
        due.same("nothing else", Picture.withoutWaits(x, 2, 1, 2, 3), before);
        due.is("what it read it holds so still", x.held(2, 2), 1);
        x.abort(1);
        due.is("nothing is made up for later", x.told(2, 3), 0);
    }

    private static void promise4NoneWhenNotActive() {
        Due due = new Due("promise 4: NONE when it is not active");
        UndoStore x = Stores.withEnded();
        String before = Picture.of(x, 7, 1, 6);
        for (int t : Stores.NOT_ACTIVE) {
            due.is("put(" + t + ", 6, 9)", x.put(t, 6, 9), NONE);
            due.is("put(" + t + ", 1, 9), though it is held", x.put(t, 1, 9), NONE);
        }
        due.is("put(0, 6, 9)", x.put(0, 6, 9), NONE);
        due.is("put(0, 1, 9), though it is held", x.put(0, 1, 9), NONE);
        due.same("nothing changed", Picture.of(x, 7, 1, 6), before);
        due.is("the store wrote nothing", x.get(0, 6), NOTHING);
    }

    private static void promise5OneWhenItSawOne() {
        Due due = new Due("promise 5: 1 when it saw one before");
        UndoStore x = Stores.withNested(3);
        for (int key : EDGES) {
            x.put(1, key, 0);
            due.is("its own, key " + key, x.take(1, key), 1);
        }
        x.put(1, 5, LEAST);
        due.is("its parent's parent's", x.take(3, 5), 1);
        x.put(3, 5, 6);
        x.commit(3);
        due.is("its child's", x.take(2, 5), 1);
        x.abort(2);
        x.commit(1);
        x.open(0);
        due.is("the store's", x.take(4, 5), 1);
    }

    private static void promise5ZeroWhenItSawNone() {
        Due due = new Due("promise 5: otherwise 0");
        UndoStore x = Stores.withNested(2);
        for (int key : EDGES) {
            due.is("nobody wrote key " + key, x.take(1, key), 0);
            due.is("it took away key " + key, x.take(1, key), 0);
            due.is("its parent took away key " + key, x.take(2, key), 0);
        }
        x.commit(2);
        due.is("its child took it away", x.take(1, 0), 0);
        x.commit(1);
        x.open(0);
        due.is("it is away from the store", x.take(3, 0), 0);
    }

    private static void promise5WritesAlsoIfItSawNone() {
        Due due = new Due("promise 5: it writes, also if it saw none");
        UndoStore x = Stores.withOpen(2);
        due.is("saw none", x.take(1, 1), 0);
        due.is("it wrote for a key", x.told(1, 3), 1);
        due.is("it holds it for writing", x.held(1, 1), 2);
        due.is("and is in the way", x.get(2, 1), HELD);
        x.mark(1);
        x.take(1, 1);
        due.is("once more is no change", x.back(1, 0), 0);
        x.take(1, 2);
        due.is("another key is one", x.back(1, 0), 1);
        due.is("it is counted by commit()", x.commit(1), 1);
        due.is("the store is empty still", x.size(0), 0);
    }

    private static void promise5Blocked() {
        Due due = new Due("promise 5: BLOCKED");
        UndoStore x = Stores.withNested(3);
        x.open(1);
        x.open(0);
        x.get(3, 1);
        x.take(3, 2);
        for (int key = 1; key <= 2; key++) {
            due.is("by a child, key " + key, x.take(2, key), BLOCKED);
            due.is("by a grandchild, key " + key, x.take(1, key), BLOCKED);
            due.is("by a brother's child, key " + key, x.take(4, key), BLOCKED);
            due.is("by one in another one, key " + key, x.take(5, key), BLOCKED);
        }
        due.is("not by itself, which reads", x.take(3, 1), 0);
        due.is("not by itself, which writes", x.take(3, 2), 0);
        x.get(1, 3);
        x.put(1, 4, 4);
        due.is("not by an ancestor that reads", x.take(3, 3), 0);
        due.is("not by an ancestor that writes", x.take(3, 4), 1);
    }

    private static void promise5BlockedChangesNothing() {
        Due due = new Due("promise 5: BLOCKED: nothing happens, but that it waits");
        UndoStore x = Stores.withOpen(2);
        x.put(1, 1, 1);
        x.get(2, 2);
        x.get(1, 2);
        String before = Picture.withoutWaits(x, 2, 1, 2, 3);
        due.is("by a writer", x.take(2, 1), BLOCKED);
        due.is("it waits", x.waits(2), 1);
        due.is("by a reader", x.take(2, 2), BLOCKED);
        due.is("it waits", x.waits(2), 1);
        due.same("nothing else", Picture.withoutWaits(x, 2, 1, 2, 3), before);
    }

    private static void promise5NoneWhenNotActive() {
        Due due = new Due("promise 5: NONE when it is not active");
        UndoStore x = Stores.withEnded();
        String before = Picture.of(x, 7, 1, 4);
        for (int t : Stores.NOT_ACTIVE) {
            due.is("take(" + t + ", 4)", x.take(t, 4), NONE);
            due.is("take(" + t + ", 1), though it is held", x.take(t, 1), NONE);
        }
        due.is("take(0, 4)", x.take(0, 4), NONE);
        due.is("take(0, 1), though it is held", x.take(0, 1), NONE);
        due.same("nothing changed", Picture.of(x, 7, 1, 4), before);
        due.is("the store has it still", x.get(0, 4), 40);
    }
}
