/** Objects to begin a test with, and arguments at the edges. */
final class Stores {
    static final int LEAST = Integer.MIN_VALUE;
    static final int MOST = Integer.MAX_VALUE;
    /** In the object that withEnded() makes: the active ones. */
    static final int[] ACTIVE = {1, 6};
    /** In the object that withEnded() makes: those that ended, and numbers that none has. */
    static final int[] NOT_ACTIVE =
        {2, 3, 4, 5, 7, 8, 150, 151, 152, 512, -1, -2, -150, LEAST, LEAST + 1, MOST - 1, MOST};
    /** In the object that withEnded() makes: numbers that none has, the store's among them. */
    static final int[] NONE_SUCH = {0, 7, 8, 150, 151, 152, 512, -1, -2, -150, LEAST, MOST};

    private Stores() {
    }

    /** So many transactions in the store, none in another one. */
    static UndoStore withOpen(int transactions) {
        UndoStore x = new UndoStore();
        for (int i = 0; i < transactions; i++) {
            x.open(0);
        }
        return x;
    }

    /** So many transactions, each one lying in the one before. */
    static UndoStore withNested(int transactions) {
        UndoStore x = new UndoStore();
        for (int i = 0; i < transactions; i++) {
            x.open(i);
        }
        return x;
    }

    /**
     * 1 and 6 are active; 2 (in 1) and 5 committed, 3 (in 1) was aborted and 4 (in 3) with it. All
     * have a mark. 6 holds key 1 for writing and key 2 for reading; the store has key 4.
     */
    static UndoStore withEnded() {
        UndoStore x = withOpen(1);
        x.open(1);
        x.open(1);
        x.open(3);
        x.open(0);
        for (int t = 1; t <= 5; t++) {
            x.mark(t);
        }
        x.put(5, 4, 40);
        x.get(5, 5);
        x.put(2, 6, 60);
        x.put(4, 7, 70);
        x.get(3, 7);
        x.get(3, 8);
        x.commit(5);
        x.commit(2);
        x.abort(3);
        x.open(0);
        x.mark(6);
        x.put(6, 1, 10);
        x.get(6, 2);
        return x;
    }
}
