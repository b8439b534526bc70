import java.io.IOException;
import java.lang.reflect.InvocationTargetException;
import java.lang.reflect.Method;
import java.lang.reflect.Modifier;
import java.nio.file.Files;
import java.nio.file.Path;
import java.util.HashMap;
import java.util.HashSet;
import java.util.Map;
import java.util.Set;
import java.util.regex.Matcher;
import java.util.regex.Pattern;

/** README.md says the document's words for every call, and its run of calls answers what it says there. */
public final class ReadmeTest {
    private static final Checks c = new Checks("ReadmeTest");
    private static final String FIRST_LINE = "ObjectMerge x = new ObjectMerge();";
    private static final Pattern CALL =
            Pattern.compile("(?:int (\\w+) = )?x\\.(\\w+)\\((.*)\\);\\s+// (throws \\w+|-?\\w+)(?:: .*)?");

    private final ObjectMerge x = new ObjectMerge();
    private final Map<String, Method> methods = new HashMap<>();
    private final Map<String, Long> names = new HashMap<>();
    private final Set<String> called = new HashSet<>();

    private ReadmeTest() {
        for (Method m : ObjectMerge.class.getDeclaredMethods()) {
            if (Modifier.isPublic(m.getModifiers())) {
                methods.put(m.getName(), m);
            }
        }
    }

    public static void main(String[] args) throws IOException, IllegalAccessException {
        String readme = Files.readString(Path.of("README.md"));
        words(readme);
        new ReadmeTest().run(between(readme, "```java\n", "```"));
        c.end();
    }

    private static String between(String text, String from, String to) {
        int start = text.indexOf(from);
        int end = start < 0 ? -1 : text.indexOf(to, start + from.length());
        return end < 0 ? "" : text.substring(start + from.length(), end);
    }

    private static void words(String readme) throws IOException {
        Document document = new Document();
        String terms = between(readme, "## Terms\n", "\n## ").replaceAll("\\s+", " ");
        for (String sentence : document.sentences(Document.TERMS)) {
            c.due("the terms say '" + sentence + "'", terms.contains(sentence), true);
        }
        for (int promise = 1; promise <= Document.PROMISES; promise++) {
            String row = between(readme, "\n| " + promise + " | ", "\n");
            String call = document.call(promise);
            c.due("row " + promise + " has " + call, !call.isEmpty() && row.startsWith("`" + call + "` | "), true);
            for (String sentence : document.sentences(promise)) {
                c.due("row " + promise + " says '" + sentence + "'", row.contains(sentence), true);
            }
        }
    }

    private void run(String lines) throws IllegalAccessException {
        c.due("the run begins with a new object", lines.startsWith(FIRST_LINE + "\n"), true);
        for (String line : lines.replace(FIRST_LINE, "").split("\n")) {
            if (!line.isBlank()) {
                call(line);
            }
        }
        c.due("the run calls " + called, called.equals(methods.keySet()), true);
    }

    private void call(String line) throws IllegalAccessException {
        Matcher parts = CALL.matcher(line);
        Method m = parts.matches() ? methods.get(parts.group(2)) : null;
        if (m == null) {
            c.tell("no call: " + line);
            return;
        }
        called.add(m.getName());
        String answered = answer(m, arguments(m, parts.group(3)));
        String due = parts.group(4).equals("NONE") ? String.valueOf(ObjectMerge.NONE) : parts.group(4);
        c.due(line + " (answered " + answered + ")", answered.equals(due), true);
        if (parts.group(1) != null && answered.matches("\\d+")) {
            names.put(parts.group(1), Long.valueOf(answered));
        }
    }

    private Object[] arguments(Method m, String text) {
        String[] words = text.isEmpty() ? new String[0] : text.split(", ");
        Object[] values = new Object[words.length];
        for (int i = 0; i < words.length; i++) {
            Long value = names.containsKey(words[i]) ? names.get(words[i]) : Long.valueOf(words[i]);
            if (m.getParameterTypes()[i] == int.class) {
                values[i] = value.intValue();
            } else {
                values[i] = value;
            }
        }
        return values;
    }

    private String answer(Method m, Object[] arguments) throws IllegalAccessException {
        try {
            return String.valueOf(m.invoke(x, arguments));
        } catch (InvocationTargetException e) {
            return "throws " + e.getCause().getClass().getSimpleName();
        }
    }
}
