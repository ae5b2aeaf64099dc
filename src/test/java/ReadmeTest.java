import java.io.IOException;
import java.lang.reflect.Field;
import java.lang.reflect.Method;
import java.lang.reflect.Modifier;
import java.nio.file.Files;
import java.nio.file.Path;
import java.util.ArrayList;
import java.util.List;

/** README.md tells the example's answers as the class gives them, and the whole face. */
public final class ReadmeTest {
    private static final Path README = Path.of("README.md");

    private final Due due = new Due("README.md");
    private final List<String> lines;
    private final String text;
    /** Lines of the example that were compared with an answer. */
    private final List<String> compared = new ArrayList<>();

    private ReadmeTest(String text) {
        this.text = text;
        lines = exampleOf(text);
    }

    public static void main(String[] args) throws IOException {
        ReadmeTest test = new ReadmeTest(Files.readString(README));
        test.example();
        test.face();
        Due.close();
    }

    private static List<String> exampleOf(String text) {
        List<String> lines = new ArrayList<>();
        String[] parts = text.split("```java\n", 2);
        if (parts.length == 2) {
            for (String line : parts[1].split("```", 2)[0].split("\n")) {
                lines.add(line);
            }
        }
        return lines;
    }

    private void example() {
        UndoStore store = new UndoStore();
        due.holds("the example begins with a new object",
                !lines.isEmpty() && lines.get(0).equals("UndoStore store = new UndoStore();"));
        int outer = store.open(0);
        told("int outer = store.open(0);", outer);
        int inner = store.open(outer);
        told("int inner = store.open(outer);", inner);
        told("store.put(inner, 5, 50);", store.put(inner, 5, 50));
        told("store.get(outer, 5);", store.get(outer, 5));
        told("store.waits(outer);", store.waits(outer));
        told("store.commit(inner);", store.commit(inner));
        told("store.waits(outer);", store.waits(outer));
        int mark = store.mark(outer);
        told("int mark = store.mark(outer);", mark);
        told("store.take(outer, 5);", store.take(outer, 5));
        told("store.size(outer);", store.size(outer));
        told("store.back(outer, mark);", store.back(outer, mark));
        told("store.get(outer, 5);", store.get(outer, 5));
        told("store.commit(outer);", store.commit(outer));
        told("store.get(0, 5);", store.get(0, 5));
        told("store.get(outer, 5);", store.get(outer, 5));
        due.is("lines of the example", lines.size(), compared.size() + 1);
    }

    /** The next line of the example is this call, with this answer behind it. */
    private void told(String call, long answer) {
        int at = compared.size() + 1;
        String line = at < lines.size() ? lines.get(at) : "";
        String[] parts = line.split("//|: ");
        String got = parts.length < 2 ? line : parts[0].trim() + " " + parts[1].trim();
        due.same("line " + at + " of the example", got, call + " " + nameOf(answer));
        compared.add(line);
    }

    private static String nameOf(long answer) {
        if (answer == UndoStore.NOTHING) {
            return "UndoStore.NOTHING";
        }
        if (answer == UndoStore.HELD) {
            return "UndoStore.HELD";
        }
        return answer == UndoStore.REFUSED ? "UndoStore.REFUSED" : Long.toString(answer);
    }

    private void face() {
        for (Method method : UndoStore.class.getDeclaredMethods()) {
            if (Modifier.isPublic(method.getModifiers())) {
                due.holds("a row for " + method.getName(),
                        text.contains(" | `" + method.getName() + "("));
            }
        }
        for (Field field : UndoStore.class.getDeclaredFields()) {
            if (Modifier.isPublic(field.getModifiers())) {
                due.holds("a word on " + field.getName(),
                        text.contains("`" + field.getName() + "`"));
            }
        }
    }
}
