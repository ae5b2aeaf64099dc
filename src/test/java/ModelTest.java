/** Runs of 512 calls from fixed seeds: every answer is the one that the model gives. */
public final class ModelTest {
    private static final int CALLS = 512;
    private static final int RUNS = 2400;
    private static final int[] KEYS = {2, 3, 5, 8, 30, 400};
    private static final int[] OPENS = {3, 10, 40};

    private final UndoStore x = new UndoStore();
    private final Model model = new Model();
    private final Due due;
    private final int keys;
    /** Of a hundred calls so many open a transaction. */
    private final int opens;
    /** Of ten transactions so many lie in the newest active one. */
    private final int nesting;
    private long seed;

    private ModelTest(int run) {
        due = new Due("run " + run);
        keys = KEYS[run % KEYS.length];
        opens = OPENS[run / KEYS.length % OPENS.length];
        nesting = run % 11;
        seed = run * 7919L + 17;
    }

    public static void main(String[] args) {
        for (int run = 0; run < RUNS && !Due.anyWrong(); run++) {
            new ModelTest(run).play();
        }
        Due.close();
    }

    private void play() {
        for (int call = 0; call < CALLS && !Due.anyWrong(); call++) {
            if (below(100) < opens) {
                open();
            } else if (below(100) < 55) {
                change();
            } else {
                ask();
            }
        }
    }

    private void open() {
        int parent = below(10) < nesting ? newestActive() : anyTransaction();
        due.is("open(" + parent + ")", x.open(parent), model.open(parent));
    }

    private void change() {
        int t = anyTransaction();
        int key = anyKey();
        int kind = below(100);
        if (kind < 35) {
            int value = anyValue();
            due.is(say("put", t, key, value), x.put(t, key, value), model.put(t, key, value));
        } else if (kind < 50) {
            due.is(say("take", t, key), x.take(t, key), model.take(t, key));
        } else if (kind < 70) {
            due.is(say("get", t, key), x.get(t, key), model.get(t, key));
        } else if (kind < 80) {
            due.is(say("mark", t), x.mark(t), model.mark(t));
        } else if (kind < 90) {
            int mark = below(5) - 1;
            due.is(say("back", t, mark), x.back(t, mark), model.back(t, mark));
        } else if (kind < 97) {
            due.is(say("commit", t), x.commit(t), model.commit(t));
        } else {
            due.is(say("abort", t), x.abort(t), model.abort(t));
        }
    }

    private void ask() {
        int t = anyTransaction();
        int key = anyKey();
        switch (below(9)) {
            case 0:
                due.is(say("state", t), x.state(t), model.state(t));
                break;
            case 1:
                int what = below(8) - 1;
                due.is(say("told", t, what), x.told(t, what), model.told(t, what));
                break;
            case 2:
                due.is(say("held", t, key), x.held(t, key), model.held(t, key));
                break;
            case 3:
                boolean writing = below(2) == 0;
                due.is(say("blocker", t, key, writing ? 1 : 0),
                        x.blocker(t, key, writing), model.blocker(t, key, writing));
                break;
            case 4:
                due.is(say("waits", t), x.waits(t), model.waits(t));
                break;
            case 5:
                due.is(say("ring"), x.ring(), model.ring());
                break;
            case 6:
                due.is(say("size", t), x.size(t), model.size(t));
                break;
            case 7:
                due.is(say("next", t, key), x.next(t, key), model.next(t, key));
                break;
            default:
                int high = anyKey();
                due.is(say("sum", t, key, high), x.sum(t, key, high), model.sum(t, key, high));
                break;
        }
    }

    private static String say(String name, int... arguments) {
        StringBuilder call = new StringBuilder(name).append('(');
        for (int i = 0; i < arguments.length; i++) {
            call.append(i == 0 ? "" : ", ").append(arguments[i]);
        }
        return call.append(')').toString();
    }

    /** Mostly an active one, seldom the store, one that ended, or none at all. */
    private int anyTransaction() {
        int t = below(model.opened() + 3) - 1;
        for (int tries = 0; tries < 6 && !model.isActive(t); tries++) {
            t = below(model.opened() + 3) - 1;
        }
        return t;
    }

    private int newestActive() {
        for (int t = model.opened(); t > 0; t--) {
            if (model.isActive(t)) {
                return t;
            }
        }
        return 0;
    }

    private int anyKey() {
        int key = below(keys);
        if (key == 0 && keys > 3) {
            return below(2) == 0 ? Integer.MIN_VALUE : Integer.MAX_VALUE;
        }
        return key - keys / 2;
    }

    private int anyValue() {
        int kind = below(10);
        return kind == 0 ? Integer.MIN_VALUE : kind == 1 ? Integer.MAX_VALUE : below(5) - 2;
    }

    /** A fixed row of numbers, so that each run is the same whenever it is run. */
    private int below(int bound) {
        seed = seed * 6364136223846793005L + 1442695040888963407L;
        return (int) ((seed >>> 33) % bound);
    }
}
