import java.util.Arrays;

/**
 * A store of keys with values, changed by transactions that may lie in one another.
 *
 * <p>All rows are made once, by the constructor: a call adds at most one row to each of them, and
 * an object is used for at most MOST_CALLS calls, so that none of them has to grow.
 */
public final class UndoStore {
    public static final int NONE = -1;
    public static final int BLOCKED = -2;
    public static final long NOTHING = 1099511627776L;
    public static final long HELD = 2199023255552L;
    public static final long REFUSED = 4398046511104L;

    private static final int MOST_CALLS = 512;
    private static final int MOST_TRANSACTIONS = 150;

    private static final int STORE = 0;
    /** The owner of a row that counts no more. */
    private static final int NOBODY = -1;
    /** Stands where there is no row, key or mark to point at. */
    private static final int NOWHERE = -1;

    private static final int ACTIVE = 0;
    private static final int COMMITTED = 1;
    private static final int ABORTED = 2;

    private static final int READING = 1;
    private static final int WRITING = 2;

    private final Family family;
    private final Keys keys;
    private final Writes writes;
    private final Holds holds;
    private final Marks marks;
    private final Wishes wishes;
    private final Reach reach;

    public UndoStore() {
        family = new Family();
        keys = new Keys();
        writes = new Writes();
        holds = new Holds();
        marks = new Marks();
        wishes = new Wishes();
        reach = new Reach();
    }

    public int open(int parent) {
        if (!family.canBeAsked(parent) || family.isFull()) {
            return NONE;
        }
        return family.add(parent);
    }

    public long get(int t, int key) {
        if (!family.canBeAsked(t)) {
            return REFUSED;
        }
        if (t != STORE) {
            int slot = keys.findOrAdd(key);
            if (slot == NOWHERE || holds.isFull()) {
                return REFUSED;
            }
            if (mustWait(t, slot, READING)) {
                return HELD;
            }
            holds.add(t, slot, READING);
        }
        return valueSeen(t, key);
    }

    public int put(int t, int key, int value) {
        return change(t, key, value, false);
    }

    public int take(int t, int key) {
        return change(t, key, 0, true);
    }

    public int mark(int t) {
        if (!family.isActive(t) || marks.isFull()) {
            return NONE;
        }
        return marks.add(t);
    }

    public int back(int t, int mark) {
        if (!canEndOrGoBack(t)) {
            return NONE;
        }
        int row = marks.find(t, mark);
        if (row == NOWHERE) {
            return NONE;
        }
        marks.dropAfter(t, row);
        return writes.undo(t, marks.timeOf(row));
    }

    public int commit(int t) {
        if (!canEndOrGoBack(t)) {
            return NONE;
        }
        int written = writes.keysOf(t);
        int parent = family.parentOf(t);
        writes.handOver(t, parent, marks.now());
        if (parent != STORE) {
            holds.handOver(t, parent);
        }
        end(t, COMMITTED);
        return written;
    }

    public int abort(int t) {
        if (!family.isActive(t)) {
            return NONE;
        }
        end(t, ABORTED);
        int ended = 1;
        // A child has a greater number than its parent, so one way up reaches all descendants.
        for (int u = t + 1; u <= family.opened(); u++) {
            if (family.isLeftBehind(u)) {
                end(u, ABORTED);
                ended++;
            }
        }
        return ended;
    }

    public int state(int t) {
        return family.exists(t) ? family.stateOf(t) : NONE;
    }

    public int told(int t, int what) {
        if (!family.exists(t)) {
            return NONE;
        }
        switch (what) {
            case 0:
                return family.parentOf(t);
            case 1:
                return family.activeChildrenOf(t);
            case 2:
                return marks.countOf(t);
            case 3:
                return writes.keysOf(t);
            case 4:
                return holds.countOf(t, READING);
            case 5:
                return holds.countOf(t, WRITING);
            default:
                return NONE;
        }
    }

    public int held(int t, int key) {
        if (!family.isActive(t)) {
            return NONE;
        }
        return holds.kindOf(t, keys.find(key));
    }

    public int blocker(int t, int key, boolean writing) {
        if (!family.isActive(t)) {
            return NONE;
        }
        return leastInTheWay(t, keys.find(key), writing ? WRITING : READING);
    }

    public int waits(int t) {
        if (!family.isActive(t)) {
            return NONE;
        }
        return wishes.has(t) ? leastInTheWay(t, wishes.slotOf(t), wishes.kindOf(t)) : 0;
    }

    public int ring() {
        drawWaits();
        reach.close(family.opened());
        for (int t = 1; t <= family.opened(); t++) {
            if (reach.leads(t, t)) {
                return t;
            }
        }
        return 0;
    }

    public int size(int t) {
        if (!family.canBeAsked(t)) {
            return NONE;
        }
        look(t);
        int seen = 0;
        for (int slot = 0; slot < keys.count(); slot++) {
            if (writes.hasFound(slot)) {
                seen++;
            }
        }
        return seen;
    }

    public long next(int t, int key) {
        if (!family.canBeAsked(t)) {
            return REFUSED;
        }
        look(t);
        long least = NOTHING;
        for (int slot = 0; slot < keys.count(); slot++) {
            if (keys.at(slot) > key && writes.hasFound(slot)) {
                least = Math.min(least, (long) keys.at(slot));
            }
        }
        return least;
    }

    public long sum(int t, int low, int high) {
        if (!family.canBeAsked(t)) {
            return REFUSED;
        }
        look(t);
        long total = 0;
        for (int slot = 0; slot < keys.count(); slot++) {
            int key = keys.at(slot);
            if (key >= low && key <= high && writes.hasFound(slot)) {
                total += writes.valueFound(slot);
            }
        }
        return total;
    }

    private int change(int t, int key, int value, boolean away) {
        if (!family.isActive(t)) {
            return NONE;
        }
        int slot = keys.findOrAdd(key);
        if (slot == NOWHERE || holds.isFull() || writes.isFull()) {
            return NONE;
        }
        if (mustWait(t, slot, WRITING)) {
            return BLOCKED;
        }
        boolean saw = valueSeen(t, key) != NOTHING;
        holds.add(t, slot, WRITING);
        writes.add(t, slot, value, away, marks.now());
        // The key comes when it was not seen, and goes when it was.
        return saw == away ? 1 : 0;
    }

    private boolean mustWait(int t, int slot, int kind) {
        if (leastInTheWay(t, slot, kind) == 0) {
            wishes.clear(t);
            return false;
        }
        wishes.set(t, slot, kind);
        return true;
    }

    private int leastInTheWay(int t, int slot, int kind) {
        family.trace(t);
        return holds.leastInTheWay(slot, kind, family.line());
    }

    private long valueSeen(int t, int key) {
        int slot = keys.find(key);
        if (slot == NOWHERE) {
            return NOTHING;
        }
        look(t);
        return writes.hasFound(slot) ? writes.valueFound(slot) : NOTHING;
    }

    private void look(int t) {
        family.trace(t);
        writes.findSeen(family.line());
    }

    private boolean canEndOrGoBack(int t) {
        return family.isActive(t) && family.activeChildrenOf(t) == 0;
    }

    private void end(int t, int state) {
        family.end(t, state);
        writes.drop(t);
        holds.drop(t);
        marks.drop(t);
        wishes.clear(t);
    }

    private void drawWaits() {
        reach.clear();
        for (int t = 1; t <= family.opened(); t++) {
            if (wishes.has(t)) {
                family.trace(t);
                holds.drawInTheWay(t, wishes, family.line(), reach);
            }
        }
    }

    /** The transactions: who lies in whom, and how each of them stands. */
    private static final class Family {
        private final int[] parents = new int[MOST_TRANSACTIONS + 1];
        private final int[] states = new int[MOST_TRANSACTIONS + 1];
        private final boolean[] line = new boolean[MOST_TRANSACTIONS + 1];
        private int opened = 0;

        int opened() {
            return opened;
        }

        boolean isFull() {
            return opened == MOST_TRANSACTIONS;
        }

        boolean exists(int t) {
            return t >= 1 && t <= opened;
        }

        boolean isActive(int t) {
            return exists(t) && states[t] == ACTIVE;
        }

        boolean canBeAsked(int t) {
            return t == STORE || isActive(t);
        }

        int parentOf(int t) {
            return parents[t];
        }

        int stateOf(int t) {
            return states[t];
        }

        int add(int parent) {
            opened++;
            parents[opened] = parent;
            states[opened] = ACTIVE;
            return opened;
        }

        void end(int t, int state) {
            states[t] = state;
        }

        boolean isLeftBehind(int t) {
            return isActive(t) && !canBeAsked(parents[t]);
        }

        int activeChildrenOf(int t) {
            int children = 0;
            for (int u = t + 1; u <= opened; u++) {
                if (parents[u] == t && states[u] == ACTIVE) {
                    children++;
                }
            }
            return children;
        }

        /** Marks the line of a transaction: itself, its ancestors, and the store. */
        void trace(int t) {
            for (int u = 0; u <= opened; u++) {
                line[u] = u == t;
            }
            // A parent has a smaller number than its child, so one way down meets all ancestors.
            for (int u = t; u > STORE; u--) {
                if (line[u]) {
                    line[parents[u]] = true;
                }
            }
        }

        boolean[] line() {
            return line;
        }
    }

    /** The keys that were ever read or written: each has a slot, its place in other rows. */
    private static final class Keys {
        private final int[] known = new int[MOST_CALLS];
        private int count = 0;

        int count() {
            return count;
        }

        int at(int slot) {
            return known[slot];
        }

        int find(int key) {
            for (int slot = 0; slot < count; slot++) {
                if (known[slot] == key) {
                    return slot;
                }
            }
            return NOWHERE;
        }

        int findOrAdd(int key) {
            int slot = find(key);
            if (slot != NOWHERE || count == MOST_CALLS) {
                return slot;
            }
            known[count] = key;
            count++;
            return count - 1;
        }
    }

    /**
     * What was written, the oldest first; committing changes the owner of a row, never its place.
     *
     * <p>All that hold one key for writing lie in one another, and only the innermost can write it.
     * So what the innermost of a line wrote for a key is the newest that the line wrote for it.
     */
    private static final class Writes {
        private final int[] owners = new int[MOST_CALLS];
        private final int[] slots = new int[MOST_CALLS];
        private final int[] values = new int[MOST_CALLS];
        private final boolean[] away = new boolean[MOST_CALLS];
        /** When the owner wrote it, or when the child that did so committed. */
        private final int[] times = new int[MOST_CALLS];
        private int count = 0;
        /** For each slot the row that the last search found. */
        private final int[] found = new int[MOST_CALLS];
        private final int[] earlier = new int[MOST_CALLS];

        boolean isFull() {
            return count == MOST_CALLS;
        }

        void add(int t, int slot, int value, boolean isAway, int time) {
            owners[count] = t;
            slots[count] = slot;
            values[count] = value;
            away[count] = isAway;
            times[count] = time;
            count++;
        }

        void findSeen(boolean[] line) {
            Arrays.fill(found, NOWHERE);
            for (int row = 0; row < count; row++) {
                if (owners[row] != NOBODY && line[owners[row]]) {
                    found[slots[row]] = row;
                }
            }
        }

        boolean hasFound(int slot) {
            return found[slot] != NOWHERE && !away[found[slot]];
        }

        long valueFound(int slot) {
            return found[slot] == NOWHERE ? NOTHING : values[found[slot]];
        }

        int keysOf(int t) {
            findOwn(t, found);
            int written = 0;
            for (int slot = 0; slot < MOST_CALLS; slot++) {
                if (found[slot] != NOWHERE) {
                    written++;
                }
            }
            return written;
        }

        /** Takes back what a transaction wrote from a time on: for how many keys that matters. */
        int undo(int t, int time) {
            findOwn(t, found);
            dropFrom(t, time);
            findOwn(t, earlier);
            int changed = 0;
            for (int slot = 0; slot < MOST_CALLS; slot++) {
                if (!sayTheSame(found[slot], earlier[slot])) {
                    changed++;
                }
            }
            return changed;
        }

        void handOver(int from, int to, int time) {
            for (int row = 0; row < count; row++) {
                if (owners[row] == from) {
                    owners[row] = to;
                    times[row] = time;
                }
            }
        }

        void drop(int t) {
            dropFrom(t, 0);
        }

        private void dropFrom(int t, int time) {
            for (int row = 0; row < count; row++) {
                if (owners[row] == t && times[row] >= time) {
                    owners[row] = NOBODY;
                }
            }
        }

        private void findOwn(int t, int[] rows) {
            Arrays.fill(rows, NOWHERE);
            for (int row = 0; row < count; row++) {
                if (owners[row] == t) {
                    rows[slots[row]] = row;
                }
            }
        }

        private boolean sayTheSame(int row, int other) {
            if (row == NOWHERE || other == NOWHERE) {
                return row == other;
            }
            return away[row] == away[other] && (away[row] || values[row] == values[other]);
        }
    }

    /** Who holds which key, and how: one row for each holder and key. */
    private static final class Holds {
        private final int[] owners = new int[MOST_CALLS];
        private final int[] slots = new int[MOST_CALLS];
        private final int[] kinds = new int[MOST_CALLS];
        private int count = 0;

        boolean isFull() {
            return count == MOST_CALLS;
        }

        void add(int t, int slot, int kind) {
            int row = find(t, slot);
            if (row != NOWHERE) {
                kinds[row] = Math.max(kinds[row], kind);
                return;
            }
            owners[count] = t;
            slots[count] = slot;
            kinds[count] = kind;
            count++;
        }

        int kindOf(int t, int slot) {
            int row = find(t, slot);
            return row == NOWHERE ? 0 : kinds[row];
        }

        int countOf(int t, int kind) {
            int rows = 0;
            for (int row = 0; row < count; row++) {
                if (owners[row] == t && kinds[row] == kind) {
                    rows++;
                }
            }
            return rows;
        }

        /** Rows for keys that the new owner holds already stay behind, to be dropped. */
        void handOver(int from, int to) {
            for (int row = 0; row < count; row++) {
                if (owners[row] == from) {
                    int other = find(to, slots[row]);
                    if (other == NOWHERE) {
                        owners[row] = to;
                    } else {
                        kinds[other] = Math.max(kinds[other], kinds[row]);
                    }
                }
            }
        }

        void drop(int t) {
            for (int row = 0; row < count; row++) {
                if (owners[row] == t) {
                    owners[row] = NOBODY;
                }
            }
        }

        int leastInTheWay(int slot, int kind, boolean[] line) {
            int least = 0;
            for (int row = 0; row < count; row++) {
                if (isInTheWay(row, slot, kind, line) && (least == 0 || owners[row] < least)) {
                    least = owners[row];
                }
            }
            return least;
        }

        void drawInTheWay(int t, Wishes wishes, boolean[] line, Reach reach) {
            for (int row = 0; row < count; row++) {
                if (isInTheWay(row, wishes.slotOf(t), wishes.kindOf(t), line)) {
                    reach.join(t, owners[row]);
                }
            }
        }

        private boolean isInTheWay(int row, int slot, int kind, boolean[] line) {
            if (slots[row] != slot || owners[row] == NOBODY || line[owners[row]]) {
                return false;
            }
            return kind == WRITING || kinds[row] == WRITING;
        }

        private int find(int t, int slot) {
            for (int row = 0; row < count; row++) {
                if (owners[row] == t && slots[row] == slot) {
                    return row;
                }
            }
            return NOWHERE;
        }
    }

    /** The marks of all transactions, the oldest first; each mark begins a new time. */
    private static final class Marks {
        private final int[] owners = new int[MOST_CALLS];
        private int count = 0;

        boolean isFull() {
            return count == MOST_CALLS;
        }

        int now() {
            return count;
        }

        int timeOf(int row) {
            return row + 1;
        }

        int add(int t) {
            int number = countOf(t);
            owners[count] = t;
            count++;
            return number;
        }

        int countOf(int t) {
            int rows = 0;
            for (int row = 0; row < count; row++) {
                if (owners[row] == t) {
                    rows++;
                }
            }
            return rows;
        }

        int find(int t, int number) {
            int before = 0;
            for (int row = 0; row < count; row++) {
                if (owners[row] == t) {
                    if (before == number) {
                        return row;
                    }
                    before++;
                }
            }
            return NOWHERE;
        }

        void dropAfter(int t, int last) {
            for (int row = last + 1; row < count; row++) {
                if (owners[row] == t) {
                    owners[row] = NOBODY;
                }
            }
        }

        void drop(int t) {
            dropAfter(t, NOWHERE);
        }
    }

    /** What each transaction waits to do; who is in its way is looked up when it is asked. */
    private static final class Wishes {
        private final int[] slots = new int[MOST_TRANSACTIONS + 1];
        /** 0 for those that do not wait. */
        private final int[] kinds = new int[MOST_TRANSACTIONS + 1];

        boolean has(int t) {
            return kinds[t] != 0;
        }

        int slotOf(int t) {
            return slots[t];
        }

        int kindOf(int t) {
            return kinds[t];
        }

        void set(int t, int slot, int kind) {
            slots[t] = slot;
            kinds[t] = kind;
        }

        void clear(int t) {
            kinds[t] = 0;
        }
    }

    /** Which transaction leads to which one, a bit for each pair. */
    private static final class Reach {
        private static final int WORD = 64;
        private static final int WORDS = MOST_TRANSACTIONS / WORD + 1;

        private final long[] bits = new long[(MOST_TRANSACTIONS + 1) * WORDS];

        void clear() {
            Arrays.fill(bits, 0L);
        }

        void join(int from, int to) {
            bits[from * WORDS + to / WORD] |= 1L << (to % WORD);
        }

        boolean leads(int from, int to) {
            return (bits[from * WORDS + to / WORD] >>> (to % WORD) & 1L) != 0;
        }

        /** From here on each one leads also to where those lead to whom it leads. */
        void close(int last) {
            for (int through = 1; through <= last; through++) {
                for (int from = 1; from <= last; from++) {
                    if (leads(from, through)) {
                        joinAll(from, through);
                    }
                }
            }
        }

        private void joinAll(int from, int through) {
            for (int word = 0; word < WORDS; word++) {
                bits[from * WORDS + word] |= bits[through * WORDS + word];
            }
        }
    }
}
