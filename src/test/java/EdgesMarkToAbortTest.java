/** Promises 6 to 9: a test for each sentence of theirs that names a boundary case. */
public final class EdgesMarkToAbortTest {
    private static final int NONE = UndoStore.NONE;
    private static final long NOTHING = UndoStore.NOTHING;
    private static final long HELD = UndoStore.HELD;
    private static final int LEAST = Stores.LEAST;
    private static final int MOST = Stores.MOST;

    public static void main(String[] args) {
        promise6NumberedFrom0();
        promise6NoneWhenNotActive();
        promise7NothingWrittenSince();
        promise7ChangesWhatItWrote();
        promise7ChangesWhetherItWrote();
        promise7NoChangeInTheEnd();
        promise7ChildrenWhoCommittedSince();
        promise7ChildrenWhoCommittedBefore();
        promise7LaterMarksAreGone();
        promise7TheMarkItselfStays();
        promise7WhatItHoldsStays();
        promise7NoneWhenNotActive();
        promise7NoneWithActiveChildren();
        promise7NoneWithoutSuchMark();
        promise8KeysWritten();
        promise8NothingWritten();
        promise8ParentWroteItThen();
        promise8StoreWroteItThen();
        promise8ParentHoldsWhatItHeld();
        promise8StoreHoldsNothing();
        promise8NoneWhenNotActive();
        promise8NoneWithActiveChildren();
        promise9ItselfAlone();
        promise9AllActiveDescendants();
        promise9EndedDescendantsAreNotCounted();
        promise9WhatTheyWroteIsGone();
        promise9WhatTheyHeldIsGone();
        promise9NoneWhenNotActive();
        Due.close();
    }

    private static void promise6NumberedFrom0() {
        Due due = new Due("promise 6: its number, from 0 on");
        UndoStore x = Stores.withNested(2);
        due.is("the first", x.mark(1), 0);
        due.is("the second, nothing written between", x.mark(1), 1);
        due.is("its child's first", x.mark(2), 0);
        due.is("with an active child", x.mark(1), 2);
        due.is("its child's second", x.mark(2), 1);
        x.commit(2);
        due.is("the child's marks are not handed over", x.mark(1), 3);
        x.back(1, 0);
        due.is("after going back to the first", x.mark(1), 1);
        UndoStore many = Stores.withOpen(1);
        for (int number = 0; number < 509; number++) {
            due.is("mark(1)", many.mark(1), number);
        }
        due.is("all of them", many.told(1, 2), 509);
        due.is("the 512th call", many.back(1, 508), 0);
    }

    private static void promise6NoneWhenNotActive() {
        Due due = new Due("promise 6: NONE when it is not active");
        UndoStore x = Stores.withEnded();
        String before = Picture.of(x, 7, 1, 6);
        for (int t : Stores.NOT_ACTIVE) {
            due.is("mark(" + t + ")", x.mark(t), NONE);
        }
        due.is("mark(0)", x.mark(0), NONE);
        due.same("nothing changed", Picture.of(x, 7, 1, 6), before);
        due.is("an active one", x.mark(6), 1);
    }

    private static void promise7NothingWrittenSince() {
        Due due = new Due("promise 7: for no key, 0");
        UndoStore x = Stores.withOpen(1);
        x.mark(1);
        due.is("it wrote nothing at all", x.back(1, 0), 0);
        x.put(1, 1, 1);
        x.mark(1);
        x.get(1, 1);
        x.get(1, 2);
        due.is("it read", x.back(1, 1), 0);
        x.mark(1);
        due.is("right after the mark", x.back(1, 2), 0);
        due.is("what it wrote before the mark stays", x.get(1, 1), 1);
    }

    private static void promise7ChangesWhatItWrote() {
        Due due = new Due("promise 7: for how many keys that changes what it wrote");
        UndoStore x = Stores.withOpen(1);
        x.put(1, LEAST, 0);
        x.put(1, MOST, LEAST);
        x.take(1, 0);
        x.put(1, 1, 1);
        x.mark(1);
        x.take(1, LEAST);
        x.put(1, MOST, MOST);
        x.put(1, MOST, MOST - 1);
        x.put(1, 0, 0);
        due.is("to away, to another value twice, from away", x.back(1, 0), 3);
        due.is("value 0 again", x.get(1, LEAST), 0);
        due.is("the least value again", x.get(1, MOST), LEAST);
        due.is("away again", x.get(1, 0), NOTHING);
        due.is("the other one stayed", x.get(1, 1), 1);
        due.is("it wrote for as many keys", x.told(1, 3), 4);
    }

    private static void promise7ChangesWhetherItWrote() {
        Due due = new Due("promise 7: or whether it did");
        UndoStore x = Stores.withNested(2);
        x.put(1, 1, 1);
        x.take(1, 2);
        x.mark(2);
        x.put(2, 1, 1);
        x.take(2, 2);
        x.take(2, 3);
        x.put(2, 4, 4);
        due.is("as its parent has them, or not", x.back(2, 0), 4);
        due.is("it wrote for none", x.told(2, 3), 0);
        due.is("its parent's is seen", x.get(2, 1), 1);
        due.is("none is seen", x.get(2, 4), NOTHING);
        due.is("commit() has nothing to count", x.commit(2), 0);
        due.is("its parent wrote what it wrote", x.told(1, 3), 2);
    }

    private static void promise7NoChangeInTheEnd() {
        Due due = new Due("promise 7: keys written since, but as they were, do not count");
        UndoStore x = Stores.withOpen(1);
        x.put(1, 1, 5);
        x.take(1, 2);
        x.mark(1);
        x.put(1, 1, 6);
        x.put(1, 1, 5);
        x.put(1, 2, 0);
        x.take(1, 2);
        due.is("there and back again", x.back(1, 0), 0);
        x.open(1);
        x.put(2, 1, 5);
        x.commit(2);
        due.is("a child wrote the same", x.back(1, 0), 0);
        due.is("the value", x.get(1, 1), 5);
    }

    private static void promise7ChildrenWhoCommittedSince() {
        Due due = new Due("promise 7: those that children wrote who committed since, too");
        UndoStore x = Stores.withNested(3);
        x.put(3, 1, 1);
        x.put(2, 2, 2);
        x.mark(1);
        x.put(3, 3, 3);
        x.commit(3);
        x.commit(2);
        due.is("written before the mark or since", x.back(1, 0), 3);
        due.is("nothing is seen", x.size(1), 0);
        due.is("nothing is written", x.told(1, 3), 0);
        x.put(1, 4, 4);
        x.mark(1);
        x.open(1);
        x.take(4, 4);
        x.commit(4);
        due.is("a child took it away", x.back(1, 1), 1);
        due.is("as it had written it", x.get(1, 4), 4);
    }

    private static void promise7ChildrenWhoCommittedBefore() {
        Due due = new Due("promise 7: children who committed before the mark are no matter");
        UndoStore x = Stores.withNested(3);
        x.put(3, 1, 1);
        x.commit(3);
        x.mark(2);
        due.is("back(2, 0)", x.back(2, 0), 0);
        due.is("what the child wrote stays", x.get(2, 1), 1);
        x.commit(2);
        x.mark(1);
        due.is("back(1, 0)", x.back(1, 0), 0);
        due.is("what the grandchild wrote stays", x.get(1, 1), 1);
        x.open(1);
        x.put(4, 1, 2);
        x.abort(4);
        due.is("nor are those aborted", x.back(1, 0), 0);
    }

    private static void promise7LaterMarksAreGone() {
        Due due = new Due("promise 7: later marks are gone");
        UndoStore x = Stores.withOpen(2);
        for (int number = 0; number < 5; number++) {
            x.put(1, number, number);
            x.mark(1);
            x.mark(2);
        }
        due.is("to the middle", x.back(1, 2), 2);
        due.is("three are left", x.told(1, 2), 3);
        due.is("the next one is gone", x.back(1, 3), NONE);
        due.is("the last one is gone", x.back(1, 4), NONE);
        due.is("others keep theirs", x.told(2, 2), 5);
        x.put(1, 7, 7);
        due.is("a new one gets the next number", x.mark(1), 3);
        x.put(1, 8, 8);
        due.is("and is the new one", x.back(1, 3), 1);
        due.is("written before it", x.get(1, 7), 7);
        due.is("to the first", x.back(1, 0), 3);
        due.is("one is left", x.told(1, 2), 1);
        due.is("the second is gone", x.back(1, 1), NONE);
    }

    private static void promise7TheMarkItselfStays() {
        Due due = new Due("promise 7: the mark itself stays");
        UndoStore x = Stores.withOpen(1);
        x.mark(1);
        for (int time = 0; time < 3; time++) {
            x.put(1, 1, time);
            due.is("back(1, 0)", x.back(1, 0), 1);
            due.is("marks", x.told(1, 2), 1);
        }
        due.is("at once again", x.back(1, 0), 0);
    }

    private static void promise7WhatItHoldsStays() {
        Due due = new Due("promise 7: what it holds stays");
        UndoStore x = Stores.withOpen(2);
        x.mark(1);
        x.put(1, 1, 1);
        x.take(1, 2);
        x.get(1, 3);
        x.open(1);
        x.put(3, 4, 4);
        x.commit(3);
        x.back(1, 0);
        due.is("put", x.held(1, 1), 2);
        due.is("taken", x.held(1, 2), 2);
        due.is("read", x.held(1, 3), 1);
        due.is("a child's", x.held(1, 4), 2);
        due.is("it is in the way", x.get(2, 1), HELD);
        due.is("of what it read, too", x.blocker(2, 3, true), 1);
    }

    private static void promise7NoneWhenNotActive() {
        Due due = new Due("promise 7: NONE when it is not active");
        UndoStore x = Stores.withEnded();
        String before = Picture.of(x, 7, 1, 6);
        for (int t : Stores.NOT_ACTIVE) {
            due.is("back(" + t + ", 0)", x.back(t, 0), NONE);
        }
        due.is("back(0, 0)", x.back(0, 0), NONE);
        due.same("nothing changed", Picture.of(x, 7, 1, 6), before);
        due.is("an active one", x.back(1, 0), 1);
    }

    private static void promise7NoneWithActiveChildren() {
        Due due = new Due("promise 7: NONE when it has active children");
        UndoStore x = Stores.withOpen(1);
        x.mark(1);
        x.put(1, 1, 1);
        x.mark(1);
        x.open(1);
        x.open(1);
        String before = Picture.of(x, 3, 1, 2);
        due.is("two", x.back(1, 0), NONE);
        due.same("nothing changed", Picture.of(x, 3, 1, 2), before);
        x.commit(2);
        due.is("one", x.back(1, 0), NONE);
        x.abort(3);
        due.is("none", x.back(1, 0), 1);
        UndoStore y = Stores.withNested(3);
        y.mark(1);
        y.mark(3);
        due.is("a grandchild's parent", y.back(1, 0), NONE);
        due.is("a grandchild", y.back(3, 0), 0);
    }

    private static void promise7NoneWithoutSuchMark() {
        Due due = new Due("promise 7: NONE when it has no such mark");
        UndoStore x = Stores.withOpen(2);
        due.is("it has none", x.back(1, 0), NONE);
        x.mark(2);
        due.is("another one has one", x.back(1, 0), NONE);
        x.put(1, 1, 1);
        x.mark(1);
        x.put(1, 1, 2);
        x.mark(1);
        x.put(1, 1, 3);
        String before = Picture.of(x, 2, 1);
        for (int mark : new int[] {-1, -2, 2, 3, 512, LEAST, LEAST + 1, MOST}) {
            due.is("back(1, " + mark + ")", x.back(1, mark), NONE);
        }
        due.same("nothing changed", Picture.of(x, 2, 1), before);
        x.open(1);
        x.mark(3);
        x.mark(3);
        x.mark(3);
        x.commit(3);
        due.is("a child that committed had it", x.back(1, 2), NONE);
        due.is("its last one", x.back(1, 1), 1);
    }

    private static void promise8KeysWritten() {
        Due due = new Due("promise 8: for how many keys the transaction wrote something");
        UndoStore x = Stores.withNested(2);
        x.put(1, 9, 9);
        x.put(2, LEAST, 1);
        x.put(2, LEAST, 2);
        x.take(2, MOST);
        x.put(2, 0, 0);
        x.take(2, 0);
        x.get(2, 5);
        x.get(2, 9);
        due.is("its own, once each, those away, too", x.commit(2), 3);
        due.is("its own and its child's", x.commit(1), 4);
        UndoStore many = Stores.withOpen(1);
        for (int key = 0; key < 510; key++) {
            many.put(1, key, key);
        }
        due.is("as many as calls allow, the 512th call", many.commit(1), 510);
    }

    private static void promise8NothingWritten() {
        Due due = new Due("promise 8: for none, 0");
        UndoStore x = Stores.withOpen(4);
        due.is("it did nothing", x.commit(1), 0);
        x.get(2, 1);
        due.is("it read", x.commit(2), 0);
        x.mark(3);
        x.put(3, 1, 1);
        x.back(3, 0);
        due.is("it went back", x.commit(3), 0);
        x.open(4);
        x.put(5, 1, 1);
        x.abort(5);
        due.is("its child was aborted", x.commit(4), 0);
        due.is("the store is empty", x.size(0), 0);
        for (int t = 1; t <= 4; t++) {
            due.is("state(" + t + ")", x.state(t), 1);
        }
    }

    private static void promise8ParentWroteItThen() {
        Due due = new Due("promise 8: what it wrote its parent wrote then");
        UndoStore x = Stores.withNested(2);
        x.put(1, 1, 1);
        x.put(1, 2, 2);
        x.put(1, 3, 3);
        x.put(2, 1, 10);
        x.take(2, 2);
        x.take(2, 4);
        x.commit(2);
        due.is("a value over another one", x.get(1, 1), 10);
        due.is("away over a value", x.get(1, 2), NOTHING);
        due.is("not written, so as before", x.get(1, 3), 3);
        due.is("away over nothing", x.get(1, 4), NOTHING);
        due.is("for so many keys", x.told(1, 3), 4);
        due.is("the store wrote nothing", x.size(0), 0);
        UndoStore deep = Stores.withNested(150);
        deep.put(150, 7, 77);
        for (int t = 150; t >= 1; t--) {
            due.is("commit(" + t + ")", deep.commit(t), 1);
        }
        due.is("from 150 deep", deep.get(0, 7), 77);
    }

    private static void promise8StoreWroteItThen() {
        Due due = new Due("promise 8: or the store");
        UndoStore x = Stores.withOpen(3);
        x.put(1, LEAST, MOST);
        x.put(1, 1, 0);
        x.commit(1);
        due.is("a value", x.get(0, LEAST), MOST);
        due.is("seen by others then", x.get(2, LEAST), MOST);
        x.take(2, 1);
        x.commit(2);
        due.is("away", x.get(0, 1), NOTHING);
        due.is("not seen by others", x.get(3, 1), NOTHING);
        due.is("one key is left", x.size(0), 1);
        due.is("it saw one in the store", x.put(3, LEAST, 0), 0);
    }

    private static void promise8ParentHoldsWhatItHeld() {
        Due due = new Due("promise 8: for writing what either of both held so");
        UndoStore x = Stores.withNested(2);
        x.get(1, 1);
        x.get(1, 2);
        x.put(1, 3, 3);
        x.put(1, 4, 4);
        x.get(2, 1);
        x.put(2, 2, 2);
        x.get(2, 3);
        x.take(2, 4);
        x.get(2, 5);
        x.put(2, 6, 6);
        x.commit(2);
        int[] kinds = {0, 1, 2, 2, 2, 1, 2, 0};
        for (int key = 0; key < kinds.length; key++) {
            due.is("held(1, " + key + ")", x.held(1, key), kinds[key]);
        }
        due.is("for reading alone", x.told(1, 4), 2);
        due.is("for writing", x.told(1, 5), 4);
    }

    private static void promise8StoreHoldsNothing() {
        Due due = new Due("promise 8: 0 does not hold what it held");
        UndoStore x = Stores.withOpen(2);
        x.get(1, 1);
        x.put(1, 2, 2);
        x.commit(1);
        due.is("read", x.blocker(2, 1, true), 0);
        due.is("written, to read", x.blocker(2, 2, false), 0);
        due.is("written, to write", x.blocker(2, 2, true), 0);
        due.is("put", x.put(2, 1, 1), 1);
        due.is("get", x.get(2, 2), 2);
        due.is("the one that ended holds nothing", x.told(1, 4) + x.told(1, 5), 0);
    }

    private static void promise8NoneWhenNotActive() {
        Due due = new Due("promise 8: NONE when it is not active");
        UndoStore x = Stores.withEnded();
        String before = Picture.of(x, 7, 1, 6);
        for (int t : Stores.NOT_ACTIVE) {
            due.is("commit(" + t + ")", x.commit(t), NONE);
        }
        due.is("commit(0)", x.commit(0), NONE);
        due.same("nothing changed", Picture.of(x, 7, 1, 6), before);
        due.is("an active one", x.commit(6), 1);
    }

    private static void promise8NoneWithActiveChildren() {
        Due due = new Due("promise 8: NONE when it has active children");
        UndoStore x = Stores.withNested(2);
        x.open(1);
        x.put(1, 1, 1);
        x.mark(1);
        String before = Picture.of(x, 3, 1);
        due.is("two", x.commit(1), NONE);
        due.same("nothing changed", Picture.of(x, 3, 1), before);
        x.abort(2);
        due.is("one", x.commit(1), NONE);
        due.is("the child has none", x.commit(3), 0);
        due.is("all ended", x.commit(1), 1);
        UndoStore full = Stores.withNested(150);
        due.is("the 149th of 150", full.commit(149), NONE);
        due.is("the 150th", full.commit(150), 0);
        due.is("the 149th then", full.commit(149), 0);
    }

    private static void promise9ItselfAlone() {
        Due due = new Due("promise 9: how many transactions end by it: itself");
        UndoStore x = Stores.withNested(3);
        x.open(0);
        due.is("the innermost", x.abort(3), 1);
        due.is("its parent stays active", x.state(2), 0);
        due.is("one without children", x.abort(4), 1);
        due.is("others stay active", x.state(1), 0);
        due.is("the last of 150", Stores.withOpen(150).abort(150), 1);
    }

    private static void promise9AllActiveDescendants() {
        Due due = new Due("promise 9: and all its active descendants");
        UndoStore x = Stores.withNested(3);
        x.open(1);
        x.open(2);
        x.open(0);
        x.open(6);
        due.is("two children, two grandchildren", x.abort(1), 5);
        for (int t = 1; t <= 5; t++) {
            due.is("state(" + t + ")", x.state(t), 2);
        }
        due.is("another one stays", x.state(6), 0);
        due.is("and its child", x.state(7), 0);
        due.is("150, each in the one before", Stores.withNested(150).abort(1), 150);
        UndoStore y = Stores.withOpen(1);
        for (int t = 2; t <= 150; t++) {
            y.open(1);
        }
        due.is("150, all in the first", y.abort(1), 150);
        due.is("the last one, too", y.state(150), 2);
    }

    private static void promise9EndedDescendantsAreNotCounted() {
        Due due = new Due("promise 9: descendants that ended before do not end by it");
        UndoStore x = Stores.withNested(3);
        x.open(2);
        x.open(1);
        x.commit(3);
        x.abort(4);
        due.is("itself, 2 and 5", x.abort(1), 3);
        due.is("committed stays committed", x.state(3), 1);
        due.is("aborted stays aborted", x.state(4), 2);
    }

    private static void promise9WhatTheyWroteIsGone() {
        Due due = new Due("promise 9: what they wrote is gone");
        UndoStore x = Stores.withNested(4);
        x.put(1, 1, 1);
        x.put(2, 1, 2);
        x.put(3, 1, 3);
        x.put(4, 4, 4);
        x.commit(4);
        x.put(3, 5, 5);
        due.is("abort(2)", x.abort(2), 2);
        due.is("what the one above wrote is seen", x.get(1, 1), 1);
        due.is("nor is there what one wrote that had committed", x.get(1, 4), NOTHING);
        due.is("one key", x.size(1), 1);
        due.is("wrote no more", x.told(2, 3) + x.told(3, 3), 0);
        due.is("abort(1)", x.abort(1), 1);
        due.is("nothing came into the store", x.size(0), 0);
    }

    private static void promise9WhatTheyHeldIsGone() {
        Due due = new Due("promise 9: what they held is gone");
        UndoStore x = Stores.withNested(3);
        x.open(0);
        x.get(2, 1);
        x.put(3, 2, 2);
        x.get(1, 3);
        x.put(4, 2, 2);
        due.is("it waits for it", x.waits(4), 3);
        x.abort(2);
        due.is("it waits for none", x.waits(4), 0);
        due.is("what was read", x.blocker(4, 1, true), 0);
        due.is("what was written", x.put(4, 2, 2), 1);
        due.is("the one above holds still", x.blocker(4, 3, true), 1);
        due.is("and holds no more than before", x.told(1, 4) + x.told(1, 5), 1);
    }

    private static void promise9NoneWhenNotActive() {
        Due due = new Due("promise 9: NONE when it is not active");
        UndoStore x = Stores.withEnded();
        String before = Picture.of(x, 7, 1, 6);
        for (int t : Stores.NOT_ACTIVE) {
            due.is("abort(" + t + ")", x.abort(t), NONE);
        }
        due.is("abort(0)", x.abort(0), NONE);
        due.same("nothing changed", Picture.of(x, 7, 1, 6), before);
        due.is("an active one", x.abort(6), 1);
    }
}
