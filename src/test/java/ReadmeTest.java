import java.io.IOException;
import java.lang.reflect.Method;
import java.lang.reflect.Modifier;
import java.nio.charset.StandardCharsets;
import java.nio.file.Files;
import java.nio.file.Path;
import java.util.regex.Matcher;
import java.util.regex.Pattern;

/** README.md's example, call by call: each answers what its comment begins with. It is run where README.md stands. */
public final class ReadmeTest {
    private static final Pattern CALL = Pattern.compile("yard\\.(\\w+)\\((.*)\\); +// (-?\\d+): .+");

    public static void main(String[] args) throws IOException, ReflectiveOperationException {
        Check.about("README.md");
        String text = new String(Files.readAllBytes(Path.of("README.md")), StandardCharsets.UTF_8);
        example(text);
        table(text);
        Check.end("ReadmeTest");
    }

    private static void example(String text) throws ReflectiveOperationException {
        String[] lines = between(text, "```java\n", "```").split("\n");
        Check.holds("the example begins with a new yard", lines[0].equals("TentYard yard = new TentYard();"));
        Check.holds("the example calls it", lines.length > 10);
        TentYard yard = new TentYard();
        for (int i = 1; i < lines.length; i++) {
            Matcher call = CALL.matcher(lines[i]);
            if (call.matches()) {
                Check.due(lines[i], answer(yard, call.group(1), call.group(2)), Long.parseLong(call.group(3)));
            } else {
                Check.holds(lines[i] + " is a call and what it answers, which", false);
            }
        }
    }

    private static long answer(TentYard yard, String name, String told) throws ReflectiveOperationException {
        String[] words = told.isEmpty() ? new String[0] : told.split(", ");
        Object[] values = new Object[words.length];
        Class<?>[] types = new Class<?>[words.length];
        for (int i = 0; i < words.length; i++) {
            boolean yesOrNo = words[i].equals("true") || words[i].equals("false");
            types[i] = yesOrNo ? boolean.class : int.class;
            values[i] = yesOrNo ? (Object) Boolean.valueOf(words[i]) : (Object) Integer.valueOf(words[i]);
        }
        return ((Number) TentYard.class.getMethod(name, types).invoke(yard, values)).longValue();
    }

    private static void table(String text) {
        String rows = between(text, "| what for | calls |\n", "\n\n");
        for (Method m : TentYard.class.getDeclaredMethods()) {
            if (Modifier.isPublic(m.getModifiers())) {
                Check.holds("the table names " + m.getName() + ", which", rows.contains("`" + m.getName() + "`"));
            }
        }
    }

    private static String between(String text, String from, String to) {
        int start = text.indexOf(from);
        int end = start < 0 ? -1 : text.indexOf(to, start + from.length());
        return end < 0 ? "" : text.substring(start + from.length(), end);
    }
}
