/** Promises 10 to 18: a test for each sentence of theirs that names a boundary case. */
public final class EdgesStateToSumTest {
    private static final int NONE = UndoStore.NONE;
    private static final long NOTHING = UndoStore.NOTHING;
    private static final long REFUSED = UndoStore.REFUSED;
    private static final int LEAST = Stores.LEAST;
    private static final int MOST = Stores.MOST;

    public static void main(String[] args) {
        promise10States();
        promise10NoneWhenThereIsNoneSuch();
        promise11Parent();
        promise11ActiveChildren();
        promise11Marks();
        promise11KeysWritten();
        promise11KeysHeld();
        promise11ThoseThatEnded();
        promise11NoneWhenThereIsNoneSuch();
        promise11NoneForOthers();
        promise12NotForReadingForWriting();
        promise12NoneWhenNotActive();
        promise13TheLeast();
        promise13ZeroWhenThereIsNone();
        promise13NoneWhenNotActive();
        promise14TheLeast();
        promise14ZeroWhenItWaitsForNone();
        promise14UntilItsNextCallThatReadsOrWrites();
        promise14NoneWhenNotActive();
        promise15TwoOrMore();
        promise15TheLeast();
        promise15ZeroWhenThereIsNoRing();
        promise15AllOf150();
        promise16Empty();
        promise16HowManyItSees();
        promise16NoneWhenNeither0NorActive();
        promise16HoldsNothingAndIsNeverBlocked();
        promise17TheLeastAbove();
        promise17NothingWhenThereIsNone();
        promise17RefusedWhenNeither0NorActive();
        promise18FromLowToHigh();
        promise18NoKeys();
        promise18ComesToLess();
        promise18RefusedLikewise();
        Due.close();
    }

    private static void promise10States() {
        Due due = new Due("promise 10: 0 active, 1 committed, 2 aborted");
        UndoStore x = Stores.withEnded();
        int[] states = {0, 1, 2, 2, 1, 0};
        for (int t = 1; t <= 6; t++) {
            due.is("state(" + t + ")", x.state(t), states[t - 1]);
        }
        UndoStore full = Stores.withOpen(150);
        due.is("the 150th", full.state(150), 0);
        full.commit(150);
        due.is("the 150th", full.state(150), 1);
    }

    private static void promise10NoneWhenThereIsNoneSuch() {
        Due due = new Due("promise 10: NONE when there is none such");
        UndoStore x = Stores.withEnded();
        for (int t : Stores.NONE_SUCH) {
            due.is("state(" + t + ")", x.state(t), NONE);
        }
        UndoStore full = Stores.withOpen(150);
        due.is("the 151st of 150", full.state(151), NONE);
    }

    private static void promise11Parent() {
        Due due = new Due("promise 11: 0 its parent");
        UndoStore x = Stores.withNested(149);
        x.open(0);
        for (int t = 1; t <= 149; t++) {
            due.is("told(" + t + ", 0)", x.told(t, 0), t - 1);
        }
        due.is("told(150, 0)", x.told(150, 0), 0);
    }

    private static void promise11ActiveChildren() {
        Due due = new Due("promise 11: 1 active children");
        UndoStore x = Stores.withOpen(1);
        due.is("none", x.told(1, 1), 0);
        for (int t = 2; t <= 149; t++) {
            x.open(1);
        }
        x.open(2);
        due.is("148, no grandchild among them", x.told(1, 1), 148);
        due.is("one", x.told(2, 1), 1);
        x.commit(3);
        x.abort(149);
        due.is("without those that ended", x.told(1, 1), 146);
        x.commit(150);
        due.is("none any more", x.told(2, 1), 0);
    }

    private static void promise11Marks() {
        Due due = new Due("promise 11: 2 marks");
        UndoStore x = Stores.withNested(2);
        due.is("none", x.told(1, 2), 0);
        x.mark(1);
        x.mark(1);
        x.mark(2);
        due.is("two", x.told(1, 2), 2);
        due.is("one", x.told(2, 2), 1);
        x.commit(2);
        due.is("its child's are not its own", x.told(1, 2), 2);
        x.back(1, 0);
        due.is("the one gone back to stays", x.told(1, 2), 1);
    }

    private static void promise11KeysWritten() {
        Due due = new Due("promise 11: 3 keys for which it wrote something");
        UndoStore x = Stores.withNested(2);
        due.is("none", x.told(1, 3), 0);
        x.get(1, 9);
        due.is("reading is not writing", x.told(1, 3), 0);
        x.put(1, LEAST, 1);
        x.put(1, LEAST, 2);
        due.is("a key counts once", x.told(1, 3), 1);
        x.take(1, MOST);
        due.is("those away count", x.told(1, 3), 2);
        due.is("its parent's are not its own", x.told(2, 3), 0);
        x.put(2, LEAST, 3);
        x.put(2, 0, 3);
        due.is("its own", x.told(2, 3), 2);
        due.is("its child's are not, before it commits", x.told(1, 3), 2);
        x.commit(2);
        due.is("and are then", x.told(1, 3), 3);
    }

    private static void promise11KeysHeld() {
        Due due = new Due("promise 11: 4 held for reading alone, 5 for writing");
        UndoStore x = Stores.withNested(2);
        due.is("none", x.told(1, 4), 0);
        due.is("none", x.told(1, 5), 0);
        x.get(1, 1);
        x.get(1, 1);
        x.get(1, 2);
        due.is("for reading, a key counts once", x.told(1, 4), 2);
        x.put(1, 1, 1);
        due.is("for reading alone", x.told(1, 4), 1);
        due.is("for writing", x.told(1, 5), 1);
        x.take(1, 3);
        x.get(1, 3);
        due.is("read after it was written", x.told(1, 4), 1);
        due.is("for writing", x.told(1, 5), 2);
        due.is("its parent's are not its own", x.told(2, 4) + x.told(2, 5), 0);
        x.mark(1);
        x.get(2, 3);
        x.put(2, 2, 2);
        x.commit(2);
        due.is("with its child's", x.told(1, 4), 0);
        due.is("with its child's", x.told(1, 5), 3);
        x.back(1, 0);
        due.is("going back lets go of none", x.told(1, 5), 3);
    }

    private static void promise11ThoseThatEnded() {
        Due due = new Due("promise 11: those that ended have their parent, and 0 of all else");
        UndoStore x = Stores.withEnded();
        int[] ended = {2, 3, 4, 5};
        int[] parents = {1, 1, 3, 0};
        for (int i = 0; i < ended.length; i++) {
            due.is("told(" + ended[i] + ", 0)", x.told(ended[i], 0), parents[i]);
            for (int what = 1; what <= 5; what++) {
                due.is("told(" + ended[i] + ", " + what + ")", x.told(ended[i], what), 0);
            }
        }
    }

    private static void promise11NoneWhenThereIsNoneSuch() {
        Due due = new Due("promise 11: NONE when there is none such");
        UndoStore x = Stores.withEnded();
        for (int t : Stores.NONE_SUCH) {
            for (int what = 0; what <= 5; what++) {
                due.is("told(" + t + ", " + what + ")", x.told(t, what), NONE);
            }
        }
    }

    private static void promise11NoneForOthers() {
        Due due = new Due("promise 11: NONE for others");
        UndoStore x = Stores.withEnded();
        for (int what : new int[] {-1, -2, 6, 7, 512, LEAST, MOST}) {
            for (int t = -1; t <= 7; t++) {
                due.is("told(" + t + ", " + what + ")", x.told(t, what), NONE);
            }
        }
    }

    private static void promise12NotForReadingForWriting() {
        Due due = new Due("promise 12: 0 not, 1 for reading, 2 for writing");
        UndoStore x = Stores.withNested(2);
        for (int key : new int[] {LEAST, 0, MOST}) {
            due.is("key " + key, x.held(1, key), 0);
            x.get(1, key);
            due.is("read, key " + key, x.held(1, key), 1);
            x.take(1, key);
            due.is("taken, key " + key, x.held(1, key), 2);
            x.get(1, key);
            due.is("read again, key " + key, x.held(1, key), 2);
            due.is("its child does not, key " + key, x.held(2, key), 0);
        }
        x.put(2, 5, 5);
        due.is("put", x.held(2, 5), 2);
        due.is("its parent does not", x.held(1, 5), 0);
        x.get(1, 5);
        due.is("nor when it was blocked", x.held(1, 5), 0);
        x.abort(2);
        due.is("nor when its child was aborted", x.held(1, 5), 0);
    }

    private static void promise12NoneWhenNotActive() {
        Due due = new Due("promise 12: NONE when it is not active");
        UndoStore x = Stores.withEnded();
        for (int t : Stores.NOT_ACTIVE) {
            for (int key : new int[] {1, 6, 7, 99}) {
                due.is("held(" + t + ", " + key + ")", x.held(t, key), NONE);
            }
        }
        due.is("held(0, 4)", x.held(0, 4), NONE);
        for (int t : Stores.ACTIVE) {
            due.is("held(" + t + ", 99)", x.held(t, 99), 0);
        }
    }

    private static void promise13TheLeast() {
        Due due = new Due("promise 13: the least of those in the way");
        UndoStore x = Stores.withOpen(150);
        for (int t = 150; t >= 2; t--) {
            x.get(t, LEAST);
        }
        due.is("of 149 readers", x.blocker(1, LEAST, true), 2);
        due.is("without itself", x.blocker(2, LEAST, true), 3);
        x.put(150, MOST, 1);
        due.is("the 150th, to read", x.blocker(1, MOST, false), 150);
        due.is("the 150th, to write", x.blocker(1, MOST, true), 150);
        x.abort(2);
        due.is("when the least has ended", x.blocker(1, LEAST, true), 3);
        UndoStore y = Stores.withNested(3);
        y.put(2, 1, 1);
        y.put(3, 1, 1);
        due.is("of a child and a grandchild", y.blocker(1, 1, false), 2);
        due.is("of a child", y.blocker(2, 1, false), 3);
    }

    private static void promise13ZeroWhenThereIsNone() {
        Due due = new Due("promise 13: 0 when there is none");
        UndoStore x = Stores.withNested(3);
        for (int key : new int[] {LEAST, 0, MOST}) {
            due.is("to write a key of nobody", x.blocker(1, key, true), 0);
            due.is("to read a key of nobody", x.blocker(1, key, false), 0);
        }
        x.put(1, 1, 1);
        x.get(2, 1);
        due.is("itself", x.blocker(1, 1, false), 0);
        due.is("its parent and that one's parent", x.blocker(3, 1, true), 0);
        x.open(1);
        due.is("one that reads, to read", x.blocker(4, 1, false), 0);
        due.is("one that reads, to write", x.blocker(4, 1, true), 2);
        String before = Picture.of(x, 4, 1);
        x.blocker(4, 1, true);
        x.blocker(4, 9, true);
        due.same("asking changes nothing", Picture.of(x, 4, 1), before);
    }

    private static void promise13NoneWhenNotActive() {
        Due due = new Due("promise 13: NONE when it is not active");
        UndoStore x = Stores.withEnded();
        for (int t : Stores.NOT_ACTIVE) {
            for (int key : new int[] {1, 99}) {
                due.is("blocker(" + t + ", " + key + ", true)", x.blocker(t, key, true), NONE);
                due.is("blocker(" + t + ", " + key + ", false)", x.blocker(t, key, false), NONE);
            }
        }
        due.is("blocker(0, 1, true)", x.blocker(0, 1, true), NONE);
        due.is("blocker(0, 1, false)", x.blocker(0, 1, false), NONE);
        due.is("an active one", x.blocker(1, 1, false), 6);
    }

    private static void promise14TheLeast() {
        Due due = new Due("promise 14: the least of those for which it waits");
        UndoStore x = Stores.withOpen(150);
        for (int t = 149; t >= 1; t--) {
            x.get(t, MOST);
        }
        x.put(150, MOST, 0);
        due.is("of 149", x.waits(150), 1);
        x.abort(1);
        due.is("of 148", x.waits(150), 2);
        x.put(1, MOST, 0);
        x.put(149, LEAST, 0);
        x.get(2, LEAST);
        due.is("the 149th", x.waits(2), 149);
        due.is("as before", x.waits(150), 2);
    }

    private static void promise14ZeroWhenItWaitsForNone() {
        Due due = new Due("promise 14: 0 when it waits for none");
        UndoStore x = Stores.withOpen(3);
        due.is("a new one", x.waits(2), 0);
        x.get(1, 1);
        due.is("not blocked", x.waits(1), 0);
        x.put(2, 1, 1);
        due.is("blocked", x.waits(2), 1);
        due.is("who is in the way does not wait", x.waits(1), 0);
        x.commit(1);
        due.is("perhaps none any more", x.waits(2), 0);
        x.get(3, 1);
        due.is("it waits still, and now for another one", x.waits(2), 3);
        x.abort(3);
        due.is("none again", x.waits(2), 0);
        x.open(2);
        x.get(4, 1);
        due.is("a child came into the way", x.waits(2), 4);
        x.commit(4);
        due.is("what it holds itself is not in its way", x.waits(2), 0);
    }

    private static void promise14UntilItsNextCallThatReadsOrWrites() {
        Due due = new Due("promise 14: until its next call that reads or writes");
        for (int kind = 0; kind < 6; kind++) {
            UndoStore x = Stores.withOpen(3);
            x.put(1, 1, 1);
            x.put(3, 2, 2);
            x.get(2, 1);
            due.is("blocked", x.waits(2), 1);
            x.mark(2);
            x.back(2, 0);
            x.held(2, 5);
            x.blocker(2, 2, true);
            x.put(0, 5, 5);
            x.put(3, 5, 5);
            due.is("other calls do not end it", x.waits(2), 1);
            long[] answers = {UndoStore.NOTHING, 1, 0, UndoStore.HELD, -2, -2};
            long answer = readOrWrite(x, kind);
            due.is("call " + kind, answer, answers[kind]);
            due.is("after call " + kind, x.waits(2), kind < 3 ? 0 : 3);
        }
    }

    /** One of the calls that read or write: the first three are not blocked. */
    private static long readOrWrite(UndoStore x, int kind) {
        int key = kind < 3 ? 9 : 2;
        switch (kind % 3) {
            case 0:
                return x.get(2, key);
            case 1:
                return x.put(2, key, 0);
            default:
                return x.take(2, key);
        }
    }

    private static void promise14NoneWhenNotActive() {
        Due due = new Due("promise 14: NONE when it is not active");
        UndoStore x = Stores.withEnded();
        for (int t : Stores.NOT_ACTIVE) {
            due.is("waits(" + t + ")", x.waits(t), NONE);
        }
        due.is("waits(0)", x.waits(0), NONE);
        x.get(1, 1);
        due.is("an active one", x.waits(1), 6);
        x.abort(1);
        due.is("its end ends its waiting", x.waits(1), NONE);
    }

    private static void promise15TwoOrMore() {
        Due due = new Due("promise 15: a ring of two or more");
        UndoStore x = Stores.withOpen(2);
        x.get(1, 1);
        x.get(2, 1);
        x.put(1, 1, 1);
        due.is("one waits", x.ring(), 0);
        x.put(2, 1, 1);
        due.is("two, for one key", x.ring(), 1);
        x.abort(2);
        due.is("one alone is none", x.ring(), 0);
        UndoStore y = Stores.withNested(2);
        y.open(0);
        y.put(1, 1, 1);
        y.put(2, 2, 2);
        y.put(3, 3, 3);
        y.get(2, 3);
        y.get(3, 1);
        due.is("a child waits for one that waits for its parent", y.ring(), 0);
        y.get(1, 2);
        due.is("three, the parent waits for its child", y.ring(), 1);
    }

    private static void promise15TheLeast() {
        Due due = new Due("promise 15: the least transaction that is in a ring");
        UndoStore x = Stores.withOpen(6);
        for (int t = 1; t <= 6; t++) {
            x.put(t, t, t);
        }
        x.get(5, 6);
        x.get(6, 5);
        due.is("5 and 6", x.ring(), 5);
        x.get(1, 5);
        due.is("1 waits for one in a ring, and is in none", x.ring(), 5);
        x.get(3, 4);
        x.get(4, 3);
        due.is("of two rings", x.ring(), 3);
        x.get(4, 2);
        due.is("2 does not wait", x.ring(), 5);
        x.get(2, 3);
        due.is("2, 3 and 4", x.ring(), 2);
        x.get(6, 1);
        due.is("1, 5 and 6", x.ring(), 1);
    }

    private static void promise15ZeroWhenThereIsNoRing() {
        Due due = new Due("promise 15: 0 when there is no ring");
        due.is("no transactions", new UndoStore().ring(), 0);
        due.is("150 that do not wait", Stores.withOpen(150).ring(), 0);
        UndoStore x = Stores.withOpen(3);
        for (int t = 1; t <= 3; t++) {
            x.put(t, t, t);
        }
        x.get(1, 2);
        x.get(2, 3);
        due.is("a chain", x.ring(), 0);
        x.get(3, 1);
        due.is("a ring", x.ring(), 1);
        x.get(3, 9);
        due.is("its last one waits no more", x.ring(), 0);
        x.get(3, 1);
        due.is("a ring again", x.ring(), 1);
        x.commit(2);
        due.is("one of it ended", x.ring(), 0);
    }

    private static void promise15AllOf150() {
        Due due = new Due("promise 15: a ring of all 150");
        UndoStore x = Stores.withOpen(150);
        for (int t = 1; t <= 150; t++) {
            x.put(t, t, t);
        }
        for (int t = 2; t <= 150; t++) {
            x.get(t, t - 1);
        }
        due.is("a chain of all", x.ring(), 0);
        x.get(1, 150);
        due.is("a ring of all", x.ring(), 1);
        x.get(1, 9999);
        x.get(149, 150);
        due.is("the last two", x.ring(), 149);
    }

    private static void promise16Empty() {
        Due due = new Due("promise 16: 0 when it sees none");
        UndoStore x = Stores.withNested(2);
        due.is("the store", x.size(0), 0);
        due.is("in an empty store", x.size(2), 0);
        x.put(1, 1, 1);
        x.take(2, 1);
        x.take(2, 2);
        due.is("all are away", x.size(2), 0);
        due.is("not for its parent", x.size(1), 1);
        x.commit(2);
        x.commit(1);
        due.is("the store", x.size(0), 0);
    }

    private static void promise16HowManyItSees() {
        Due due = new Due("promise 16: how many keys a transaction sees (0: the store has)");
        UndoStore x = Stores.withOpen(1);
        for (int key = 0; key < 505; key++) {
            x.put(1, key, 0);
        }
        due.is("505", x.size(1), 505);
        due.is("the store", x.size(0), 0);
        x.commit(1);
        due.is("the store", x.size(0), 505);
        x.open(0);
        due.is("through the store", x.size(2), 505);
        UndoStore deep = Stores.withNested(150);
        for (int t = 1; t <= 150; t++) {
            deep.put(t, t / 2, t);
        }
        due.is("150 deep, two wrote most keys", deep.size(150), 76);
        due.is("149 deep", deep.size(149), 75);
        due.is("the first", deep.size(1), 1);
    }

    private static void promise16NoneWhenNeither0NorActive() {
        Due due = new Due("promise 16: NONE when it is neither 0 nor active");
        UndoStore x = Stores.withEnded();
        for (int t : Stores.NOT_ACTIVE) {
            due.is("size(" + t + ")", x.size(t), NONE);
        }
        due.is("size(0)", x.size(0), 1);
        due.is("size(1)", x.size(1), 2);
        due.is("size(6)", x.size(6), 2);
    }

    private static void promise16HoldsNothingAndIsNeverBlocked() {
        Due due = new Due("promise 16: this, next() and sum() hold nothing and are never blocked");
        UndoStore x = Stores.withOpen(3);
        x.put(1, 1, 1);
        x.put(2, 2, 2);
        x.commit(2);
        x.take(1, 2);
        String before = Picture.of(x, 3, 1, 2, 3);
        due.is("size, as others are in the way", x.size(3), 1);
        due.is("next, as others are in the way", x.next(3, 0), 2);
        due.is("sum, as others are in the way", x.sum(3, 0, 9), 2);
        due.is("size of the store", x.size(0), 1);
        due.is("next of the store", x.next(0, 1), 2);
        due.is("sum of the store", x.sum(0, 2, 2), 2);
        due.is("it does not wait", x.waits(3), 0);
        due.is("it holds nothing", x.told(3, 4) + x.told(3, 5), 0);
        due.same("nothing changed", Picture.of(x, 3, 1, 2, 3), before);
        due.is("it saw none, so none is in the way", x.put(1, 3, 3), 1);
    }

    private static void promise17TheLeastAbove() {
        Due due = new Due("promise 17: the least key above one");
        UndoStore x = Stores.withNested(2);
        x.put(1, MOST, 0);
        x.put(2, 0, 0);
        x.put(1, LEAST, 0);
        x.put(2, LEAST + 1, 0);
        x.put(1, -1, 0);
        x.put(2, MOST - 1, 0);
        int[] keys = {LEAST, LEAST + 1, -1, 0, MOST - 1, MOST};
        for (int i = 1; i < keys.length; i++) {
            due.is("above " + keys[i - 1], x.next(2, keys[i - 1]), keys[i]);
            due.is("just below " + keys[i], x.next(2, keys[i] - 1), keys[i]);
        }
        due.is("1 has others", x.next(1, LEAST), -1);
        due.is("1 has others", x.next(1, -1), MOST);
        due.is("between", x.next(1, 5), MOST);
    }

    private static void promise17NothingWhenThereIsNone() {
        Due due = new Due("promise 17: NOTHING when there is none");
        UndoStore x = Stores.withNested(2);
        due.is("in an empty store", x.next(2, LEAST), NOTHING);
        due.is("the store", x.next(0, LEAST), NOTHING);
        x.put(1, 5, 5);
        due.is("the last key itself is not above it", x.next(1, 5), NOTHING);
        due.is("above the last key", x.next(1, 6), NOTHING);
        x.put(1, MOST, 5);
        due.is("above the greatest int is none, not the least", x.next(1, MOST), NOTHING);
        x.put(1, LEAST, 5);
        due.is("nor then", x.next(1, MOST), NOTHING);
        due.is("the least int is above none", x.next(1, LEAST), 5);
        x.take(2, 5);
        x.take(2, MOST);
        due.is("those away are not seen", x.next(2, LEAST), NOTHING);
        due.is("its parent sees them", x.next(1, 5), MOST);
    }

    private static void promise17RefusedWhenNeither0NorActive() {
        Due due = new Due("promise 17: REFUSED when it is neither 0 nor active");
        UndoStore x = Stores.withEnded();
        for (int t : Stores.NOT_ACTIVE) {
            due.is("next(" + t + ", 0)", x.next(t, 0), REFUSED);
            due.is("next(" + t + ", most)", x.next(t, MOST), REFUSED);
        }
        due.is("next(0, 3)", x.next(0, 3), 4);
        due.is("next(1, 4)", x.next(1, 4), 6);
        due.is("next(6, 0)", x.next(6, 0), 1);
    }

    private static void promise18FromLowToHigh() {
        Due due = new Due("promise 18: all keys from low to high");
        UndoStore x = Stores.withNested(2);
        x.put(1, LEAST, 1);
        x.put(1, -1, 10);
        x.put(1, 0, 100);
        x.put(1, 1, 1000);
        x.put(1, MOST, 10000);
        due.is("all", x.sum(1, LEAST, MOST), 11111);
        due.is("both ends count", x.sum(1, -1, 1), 1110);
        due.is("without the ends", x.sum(1, LEAST + 1, MOST - 1), 1110);
        due.is("low is high", x.sum(1, 0, 0), 100);
        due.is("the least alone", x.sum(1, LEAST, LEAST), 1);
        due.is("the greatest alone", x.sum(1, MOST, MOST), 10000);
        x.take(2, 0);
        x.put(2, 1, -10);
        x.put(2, 2, 7);
        due.is("with its own, without those away", x.sum(2, -1, 2), 7);
        due.is("without its child's", x.sum(1, -1, 2), 1110);
        due.is("the store", x.sum(0, LEAST, MOST), 0);
    }

    private static void promise18NoKeys() {
        Due due = new Due("promise 18: of no keys, 0");
        UndoStore x = Stores.withOpen(1);
        due.is("an empty store", x.sum(1, LEAST, MOST), 0);
        x.put(1, 5, 50);
        due.is("low above high", x.sum(1, 6, 4), 0);
        due.is("low above high by one", x.sum(1, 5, 4), 0);
        due.is("from the greatest to the least", x.sum(1, MOST, LEAST), 0);
        due.is("below all", x.sum(1, LEAST, 4), 0);
        due.is("above all", x.sum(1, 6, MOST), 0);
        x.take(1, 5);
        due.is("all away", x.sum(1, LEAST, MOST), 0);
    }

    private static void promise18ComesToLess() {
        Due due = new Due("promise 18: values of at most 150 keys come to less");
        UndoStore x = Stores.withOpen(2);
        for (int key = 0; key < 150; key++) {
            x.put(1, key, MOST);
            x.put(2, -1 - key, LEAST);
        }
        due.is("no wrap-around", x.sum(1, LEAST, MOST), 150L * MOST);
        due.is("nor below 0", x.sum(2, LEAST, MOST), 150L * LEAST);
        due.is("two are more than an int", x.sum(1, 0, 1), 2L * MOST);
        x.commit(1);
        x.commit(2);
        due.is("all 300 in the store", x.sum(0, LEAST, MOST), -150);
    }

    private static void promise18RefusedLikewise() {
        Due due = new Due("promise 18: REFUSED likewise");
        UndoStore x = Stores.withEnded();
        for (int t : Stores.NOT_ACTIVE) {
            due.is("sum(" + t + ", least, most)", x.sum(t, LEAST, MOST), REFUSED);
            due.is("sum(" + t + ", 1, 0)", x.sum(t, 1, 0), REFUSED);
        }
        due.is("sum(0, least, most)", x.sum(0, LEAST, MOST), 40);
        due.is("sum(1, least, most)", x.sum(1, LEAST, MOST), 100);
        due.is("sum(6, 0, 1)", x.sum(6, 0, 1), 10);
    }
}
