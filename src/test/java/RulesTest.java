import java.io.IOException;
import java.lang.reflect.Array;
import java.lang.reflect.Constructor;
import java.lang.reflect.Field;
import java.lang.reflect.Method;
import java.lang.reflect.Modifier;
import java.nio.file.Files;
import java.nio.file.Path;
import java.util.Arrays;
import java.util.HashSet;
import java.util.List;
import java.util.Set;

/** What can be looked at of LANGUAGE.md: the face, words ruled out, and that no call throws. */
public final class RulesTest {
    private static final Path SOURCE = Path.of("src/main/java/UndoStore.java");
    private static final Set<String> FACE = Set.of(
            "int open(int)", "long get(int,int)", "int put(int,int,int)", "int take(int,int)",
            "int mark(int)", "int back(int,int)", "int commit(int)", "int abort(int)",
            "int state(int)", "int told(int,int)", "int held(int,int)",
            "int blocker(int,int,boolean)", "int waits(int)", "int ring()", "int size(int)",
            "long next(int,int)", "long sum(int,int,int)");
    private static final Set<String> CONSTANTS =
            Set.of("NONE", "BLOCKED", "NOTHING", "HELD", "REFUSED");
    private static final List<String> RULED_OUT = List.of("throw", "throws", "try", "catch",
            "synchronized", "assert", "package", "volatile", "native", "Exact", "Random", "Thread");
    private static final int[] ODD = {Integer.MIN_VALUE, -2, -1, 0, 1, 2, 3, 63, 64, 149, 150, 151,
        511, 512, 513, Integer.MAX_VALUE};

    public static void main(String[] args) throws IOException {
        face();
        nestedClasses();
        words();
        oddArguments(new UndoStore());
        beyondTheLastCall();
        noRoomLeft();
        room();
        Due.close();
    }

    private static void face() {
        Due due = new Due("rule 1");
        Set<String> names = new HashSet<>();
        Set<String> visible = new HashSet<>();
        for (Method method : UndoStore.class.getDeclaredMethods()) {
            if (Modifier.isPublic(method.getModifiers())) {
                visible.add(method.getReturnType() + " " + method.getName()
                        + Arrays.toString(method.getParameterTypes())
                                .replace('[', '(').replace(']', ')').replace(" ", ""));
                names.add(method.getName());
            }
        }
        due.holds("public methods are the face: " + visible, visible.equals(FACE));
        for (Method method : UndoStore.class.getDeclaredMethods()) {
            if (!Modifier.isPublic(method.getModifiers())) {
                due.holds(method + " is private", Modifier.isPrivate(method.getModifiers()));
                due.holds(method + " has its own name", !names.contains(method.getName()));
            }
        }
        for (Field field : UndoStore.class.getDeclaredFields()) {
            boolean constant = CONSTANTS.contains(field.getName());
            due.holds(field + " is as visible as it should be", constant
                    ? Modifier.isPublic(field.getModifiers())
                    : Modifier.isPrivate(field.getModifiers()));
            due.holds(field + " is final", Modifier.isFinal(field.getModifiers()));
        }
        Constructor<?>[] constructors = UndoStore.class.getDeclaredConstructors();
        due.is("constructors", constructors.length, 1);
        due.is("their parameters", constructors[0].getParameterCount(), 0);
        due.holds("public and final", Modifier.isPublic(UndoStore.class.getModifiers())
                && Modifier.isFinal(UndoStore.class.getModifiers()));
    }

    private static void nestedClasses() {
        Due due = new Due("rules 2, 5 and 11");
        Class<?>[] inside = UndoStore.class.getDeclaredClasses();
        due.holds("some twelve classes", inside.length < 12);
        for (Class<?> one : inside) {
            due.holds(one + " is static", Modifier.isStatic(one.getModifiers()));
            due.holds(one + " is private", Modifier.isPrivate(one.getModifiers()));
            due.holds(one + " has few fields", one.getDeclaredFields().length <= 20);
            for (Field field : one.getDeclaredFields()) {
                due.holds(field + ": no static state", !Modifier.isStatic(field.getModifiers())
                        || Modifier.isFinal(field.getModifiers()));
            }
            for (Method method : one.getDeclaredMethods()) {
                due.holds(method + " has few parameters", method.getParameterCount() <= 7);
            }
        }
    }

    private static void words() throws IOException {
        Due due = new Due("rules 2, 4 and 6");
        String code = Files.readString(SOURCE)
                .replaceAll("(?s)/\\*.*?\\*/", "").replaceAll("//.*", "");
        Set<String> words = new HashSet<>(Arrays.asList(code.split("\\W+")));
        for (String word : RULED_OUT) {
            due.holds("without " + word, !words.contains(word));
        }
        due.holds("no lambda", !code.contains("->"));
        due.holds("no method reference", !code.contains("::"));
        for (String line : code.split("\n")) {
            if (line.startsWith("import")) {
                due.holds(line, line.equals("import java.util.Arrays;"));
            }
        }
    }

    /** Every call with every odd argument: it is enough that none of them throws. */
    private static void oddArguments(UndoStore x) {
        Due due = new Due("rule 7");
        for (int t : ODD) {
            x.open(t);
            x.state(t);
            x.waits(t);
            x.size(t);
            x.mark(t);
            for (int n : ODD) {
                x.put(t, n, n);
                x.get(t, n);
                x.take(t, n);
                x.told(t, n);
                x.held(t, n);
                x.blocker(t, n, n > 0);
                x.next(t, n);
                x.sum(t, n, t);
                x.back(t, n);
                x.ring();
            }
        }
        for (int t : ODD) {
            x.commit(t);
            x.abort(t);
        }
        due.holds("no call threw", true);
    }

    /** All objects of a run share one room: calls keep nothing new, and one object takes little. */
    private static void room() {
        Due due = new Due("rule 12");
        UndoStore x = new UndoStore();
        long before = elementsOf(x);
        due.holds("fewer than 10,000 fields and elements, not " + before, before < 10_000);
        for (int i = 0; i < 128; i++) {
            x.open(i / 2);
            x.put(i + 1, i, i);
            x.mark(i + 1);
            x.get(1, i + 1000);
        }
        due.is("after 512 calls", elementsOf(x), before);
    }

    private static long elementsOf(Object one) {
        if (one.getClass().isArray()) {
            return Array.getLength(one);
        }
        long elements = 0;
        try {
            for (Field field : one.getClass().getDeclaredFields()) {
                if (!Modifier.isStatic(field.getModifiers())) {
                    field.setAccessible(true);
                    elements++;
                    elements += field.getType().isPrimitive() ? 0 : elementsOf(field.get(one));
                }
            }
        } catch (IllegalAccessException e) {
            throw new IllegalStateException(e);
        }
        return elements;
    }

    /** Far more calls of each kind than there may be, then all that goes over what they left. */
    private static void noRoomLeft() {
        Due due = new Due("rule 7");
        for (int kind = 0; kind < 4; kind++) {
            UndoStore x = Stores.withNested(3);
            x.open(0);
            x.put(4, 0, 0);
            x.get(1, 0);
            x.mark(3);
            for (int i = 0; i < 1000; i++) {
                useUp(x, kind, i);
            }
            goOverAll(x);
        }
        due.holds("no call threw", true);
    }

    private static void useUp(UndoStore x, int kind, int i) {
        if (kind == 0) {
            x.put(3, 1, i);
        } else if (kind == 1) {
            x.get(3, i);
        } else if (kind == 2) {
            x.mark(3);
        } else {
            x.put(3, i, i);
            x.mark(3);
        }
    }

    private static void goOverAll(UndoStore x) {
        for (int what = 0; what <= 5; what++) {
            x.told(3, what);
        }
        x.get(3, 0);
        x.put(4, 1, 1);
        x.ring();
        x.waits(3);
        x.held(3, 1);
        x.blocker(1, 1, true);
        x.back(3, 1);
        x.back(3, 0);
        x.back(3, 1000);
        x.commit(3);
        x.size(2);
        x.next(2, 0);
        x.sum(2, 0, 1000);
        x.abort(2);
        x.commit(1);
        x.commit(4);
        x.size(0);
    }

    private static void beyondTheLastCall() {
        Due due = new Due("rule 7");
        UndoStore x = new UndoStore();
        for (int i = 0; i < 5000; i++) {
            x.open(i % 200 - 1);
            x.put(i % 151, i, i);
            x.get(i % 150, -i);
            x.take(i % 149, i / 2);
            x.mark(i % 30);
            x.back(i % 29, i % 7);
            x.ring();
            x.size(i % 151);
            x.next(i % 151, i);
            x.sum(i % 151, -i, i);
            x.told(i % 151, i % 7);
            if (i % 50 == 49) {
                x.commit(i / 50);
                x.abort(i / 60);
            }
        }
        oddArguments(x);
        due.holds("no call threw", true);
    }
}
