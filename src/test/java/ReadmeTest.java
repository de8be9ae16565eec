import java.lang.reflect.Method;
import java.nio.file.Files;
import java.nio.file.Path;
import java.util.ArrayList;
import java.util.List;
import java.util.regex.Matcher;
import java.util.regex.Pattern;

/** The example of README.md: each of its calls answers what is said behind it. */
public final class ReadmeTest {
    private static final Due DUE = new Due();
    private static final Pattern CALL = Pattern.compile("^x\\.(\\w+)\\((.*?)\\);(?: +// (-?\\d+)\\b.*)?$");

    public static void main(String[] args) throws Exception {
        String text = Files.readString(Path.of(System.getProperty("readme")));
        String example = between(text, "```java\n", "```");
        SoupOrHorses x = new SoupOrHorses();
        Scene.feed(x, between(example, "for (char c : \"", "\".toCharArray())"));
        int calls = 0;
        for (String line : example.split("\n")) {
            Matcher matcher = CALL.matcher(line);
            if (line.startsWith("x.")) {
                DUE.holds("a call and its answer: " + line, matcher.matches() && matcher.group(3) != null);
                DUE.same(line, answer(x, matcher.group(1), matcher.group(2)), Long.parseLong(matcher.group(3)));
                calls++;
            }
        }
        DUE.holds("calls of the example: " + calls, calls > 0);
        namesAreTheDocuments(text);
        DUE.end();
    }

    private static String between(String text, String head, String tail) {
        int from = text.indexOf(head) + head.length();
        return text.substring(from, text.indexOf(tail, from));
    }

    private static long answer(SoupOrHorses x, String name, String given) throws Exception {
        String[] texts = given.isEmpty() ? new String[0] : given.split(", ");
        for (Method method : SoupOrHorses.class.getDeclaredMethods()) {
            if (method.getName().equals(name) && method.getParameterCount() == texts.length) {
                List<Object> values = new ArrayList<>();
                for (int i = 0; i < texts.length; i++) {
                    values.add(value(method.getParameterTypes()[i], texts[i]));
                }
                return ((Number) method.invoke(x, values.toArray())).longValue();
            }
        }
        throw new IllegalStateException("no call " + name + "(" + given + ")");
    }

    private static Object value(Class<?> type, String text) {
        if (type == boolean.class) {
            return Boolean.valueOf(text);
        }
        return type == long.class ? (Object) Long.valueOf(text) : (Object) Integer.valueOf(text);
    }

    /** What is set as code in the text that tells how to use the class: its own names, or numbers of status(). */
    private static void namesAreTheDocuments(String text) throws Exception {
        String use = between(text, "## How to use it", "## How it is built").replaceAll("(?s)```.*?```", "");
        List<String> names = new ArrayList<>(List.of("NONE", "src/main/java/SoupOrHorses.java"));
        for (Method method : SoupOrHorses.class.getMethods()) {
            names.add(method.getName());
        }
        Matcher matcher = Pattern.compile("`([^`\n]+)`").matcher(use);
        while (matcher.find()) {
            String name = matcher.group(1).replaceAll("\\(\\d+\\)$", "");
            DUE.holds(name + " is of the face", names.contains(name));
        }
    }
}
