/** All that can be asked of an object without changing it, as one text to compare with another. */
final class Picture {
    private Picture() {
    }

    /** Of the transactions 0 to last and of some keys. */
    static String of(UndoStore x, int last, int... keys) {
        StringBuilder text = new StringBuilder(withoutWaits(x, last, keys));
        for (int t = 1; t <= last; t++) {
            text.append(" waits(").append(t).append(")=").append(x.waits(t));
        }
        return text.append(" ring()=").append(x.ring()).toString();
    }

    static String withoutWaits(UndoStore x, int last, int... keys) {
        StringBuilder text = new StringBuilder();
        for (int t = 0; t <= last; t++) {
            text.append(" [").append(t).append("] state ").append(x.state(t)).append(" told");
            for (int what = 0; what <= 5; what++) {
                text.append(' ').append(x.told(t, what));
            }
            text.append(" sees ").append(x.size(t));
            for (int key : keys) {
                text.append(" (").append(key).append(") held ").append(x.held(t, key));
                text.append(" blocker ").append(x.blocker(t, key, true));
                text.append(" sum ").append(x.sum(t, key, key));
                text.append(" next ").append(x.next(t, key - 1));
            }
        }
        return text.toString();
    }
}
