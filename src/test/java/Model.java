import java.util.ArrayList;
import java.util.HashSet;
import java.util.List;
import java.util.Map;
import java.util.Objects;
import java.util.Set;
import java.util.TreeMap;

/** The document's words in maps and copies, without a thought of speed or room. */
final class Model {
    private static final class Transaction {
        int parent;
        int state;
        /** Null as a value: the key is away. */
        Map<Integer, Integer> wrote = new TreeMap<>();
        Map<Integer, Boolean> heldForWriting = new TreeMap<>();
        List<Map<Integer, Integer>> marks = new ArrayList<>();
        Integer wantedKey;
        boolean wantedWriting;
    }

    private final List<Transaction> all = new ArrayList<>();

    Model() {
        all.add(new Transaction());
    }

    boolean isActive(int t) {
        return exists(t) && all.get(t).state == 0;
    }

    int opened() {
        return all.size() - 1;
    }

    int open(int parent) {
        if (!isStoreOrActive(parent) || opened() == 150) {
            return -1;
        }
        Transaction born = new Transaction();
        born.parent = parent;
        all.add(born);
        return opened();
    }

    long get(int t, int key) {
        if (!isStoreOrActive(t)) {
            return UndoStore.REFUSED;
        }
        if (t != 0) {
            if (isBlocked(t, key, false)) {
                return UndoStore.HELD;
            }
            all.get(t).heldForWriting.putIfAbsent(key, false);
        }
        Integer value = seenBy(t).get(key);
        return value == null ? UndoStore.NOTHING : value;
    }

    int put(int t, int key, int value) {
        return write(t, key, value, 1, 0);
    }

    int take(int t, int key) {
        return write(t, key, null, 0, 1);
    }

    private int write(int t, int key, Integer value, int sawNone, int sawOne) {
        if (!isActive(t)) {
            return -1;
        }
        if (isBlocked(t, key, true)) {
            return -2;
        }
        int answer = seenBy(t).containsKey(key) ? sawOne : sawNone;
        all.get(t).heldForWriting.put(key, true);
        all.get(t).wrote.put(key, value);
        return answer;
    }

    int mark(int t) {
        if (!isActive(t)) {
            return -1;
        }
        Transaction one = all.get(t);
        one.marks.add(new TreeMap<>(one.wrote));
        return one.marks.size() - 1;
    }

    int back(int t, int mark) {
        if (!isActive(t) || hasActiveChildren(t) || mark < 0 || mark >= all.get(t).marks.size()) {
            return -1;
        }
        Transaction one = all.get(t);
        Map<Integer, Integer> then = one.marks.get(mark);
        Set<Integer> keys = new HashSet<>(one.wrote.keySet());
        keys.addAll(then.keySet());
        int changed = 0;
        for (Integer key : keys) {
            boolean same = one.wrote.containsKey(key) == then.containsKey(key)
                    && Objects.equals(one.wrote.get(key), then.get(key));
            changed += same ? 0 : 1;
        }
        one.wrote = new TreeMap<>(then);
        while (one.marks.size() > mark + 1) {
            one.marks.remove(one.marks.size() - 1);
        }
        return changed;
    }

    int commit(int t) {
        if (!isActive(t) || hasActiveChildren(t)) {
            return -1;
        }
        Transaction one = all.get(t);
        Transaction parent = all.get(one.parent);
        parent.wrote.putAll(one.wrote);
        if (one.parent != 0) {
            one.heldForWriting.forEach((key, writing) ->
                    parent.heldForWriting.merge(key, writing, Boolean::logicalOr));
        }
        int written = one.wrote.size();
        end(one, 1);
        return written;
    }

    int abort(int t) {
        if (!isActive(t)) {
            return -1;
        }
        int ended = 1;
        for (int u = 1; u <= opened(); u++) {
            if (isActive(u) && ancestorsOf(u).contains(t)) {
                end(all.get(u), 2);
                ended++;
            }
        }
        end(all.get(t), 2);
        return ended;
    }

    int state(int t) {
        return exists(t) ? all.get(t).state : -1;
    }

    int told(int t, int what) {
        if (!exists(t) || what < 0 || what > 5) {
            return -1;
        }
        Transaction one = all.get(t);
        int forWriting = 0;
        for (boolean writing : one.heldForWriting.values()) {
            forWriting += writing ? 1 : 0;
        }
        int children = 0;
        for (int u = 1; u <= opened(); u++) {
            children += isActive(u) && all.get(u).parent == t ? 1 : 0;
        }
        int[] answers = {one.parent, children, one.marks.size(), one.wrote.size(),
            one.heldForWriting.size() - forWriting, forWriting};
        return answers[what];
    }

    int held(int t, int key) {
        if (!isActive(t)) {
            return -1;
        }
        Boolean writing = all.get(t).heldForWriting.get(key);
        return writing == null ? 0 : writing ? 2 : 1;
    }

    int blocker(int t, int key, boolean writing) {
        if (!isActive(t)) {
            return -1;
        }
        List<Integer> inTheWay = inTheWayOf(t, key, writing);
        return inTheWay.isEmpty() ? 0 : inTheWay.get(0);
    }

    int waits(int t) {
        if (!isActive(t)) {
            return -1;
        }
        List<Integer> inTheWay = waitedForBy(t);
        return inTheWay.isEmpty() ? 0 : inTheWay.get(0);
    }

    int ring() {
        for (int t = 1; t <= opened(); t++) {
            Set<Integer> reached = new HashSet<>();
            List<Integer> toDo = new ArrayList<>(waitedForBy(t));
            while (!toDo.isEmpty()) {
                int u = toDo.remove(toDo.size() - 1);
                if (reached.add(u)) {
                    toDo.addAll(waitedForBy(u));
                }
            }
            if (reached.contains(t)) {
                return t;
            }
        }
        return 0;
    }

    int size(int t) {
        return isStoreOrActive(t) ? seenBy(t).size() : -1;
    }

    long next(int t, int key) {
        if (!isStoreOrActive(t)) {
            return UndoStore.REFUSED;
        }
        Integer above = seenBy(t).higherKey(key);
        return above == null ? UndoStore.NOTHING : above;
    }

    long sum(int t, int low, int high) {
        if (!isStoreOrActive(t)) {
            return UndoStore.REFUSED;
        }
        long total = 0;
        for (Map.Entry<Integer, Integer> one : seenBy(t).entrySet()) {
            total += one.getKey() >= low && one.getKey() <= high ? one.getValue() : 0;
        }
        return total;
    }

    private boolean exists(int t) {
        return t >= 1 && t <= opened();
    }

    private boolean isStoreOrActive(int t) {
        return t == 0 || isActive(t);
    }

    private boolean hasActiveChildren(int t) {
        return told(t, 1) > 0;
    }

    private Set<Integer> ancestorsOf(int t) {
        Set<Integer> ancestors = new HashSet<>();
        for (int u = all.get(t).parent; u != 0; u = all.get(u).parent) {
            ancestors.add(u);
        }
        return ancestors;
    }

    private TreeMap<Integer, Integer> seenBy(int t) {
        TreeMap<Integer, Integer> seen = t == 0 ? new TreeMap<>() : seenBy(all.get(t).parent);
        for (Map.Entry<Integer, Integer> one : all.get(t).wrote.entrySet()) {
            if (one.getValue() == null) {
                seen.remove(one.getKey());
            } else {
                seen.put(one.getKey(), one.getValue());
            }
        }
        return seen;
    }

    private List<Integer> inTheWayOf(int t, int key, boolean writing) {
        List<Integer> inTheWay = new ArrayList<>();
        Set<Integer> ancestors = ancestorsOf(t);
        for (int u = 1; u <= opened(); u++) {
            int holds = held(u, key);
            if (u != t && !ancestors.contains(u) && (holds == 2 || writing && holds == 1)) {
                inTheWay.add(u);
            }
        }
        return inTheWay;
    }

    private List<Integer> waitedForBy(int t) {
        Transaction one = all.get(t);
        if (one.wantedKey == null) {
            return new ArrayList<>();
        }
        return inTheWayOf(t, one.wantedKey, one.wantedWriting);
    }

    private boolean isBlocked(int t, int key, boolean writing) {
        boolean blocked = !inTheWayOf(t, key, writing).isEmpty();
        all.get(t).wantedKey = blocked ? key : null;
        all.get(t).wantedWriting = writing;
        return blocked;
    }

    private void end(Transaction one, int state) {
        one.state = state;
        one.wrote.clear();
        one.heldForWriting.clear();
        one.marks.clear();
        one.wantedKey = null;
    }
}
