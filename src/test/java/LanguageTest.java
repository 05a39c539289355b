import java.io.IOException;
import java.nio.charset.StandardCharsets;
import java.nio.file.Files;
import java.nio.file.Path;
import java.util.regex.Matcher;
import java.util.regex.Pattern;

/** Those rules of LANGUAGE.md that can be seen in the text of the class. It is run where src stands. */
public final class LanguageTest {
    private static final Pattern METHOD = Pattern.compile("^ +(?!return|else|new)[\\w ]*\\w[\\[\\]]* ?\\w+\\(([^()]*)\\) \\{$");
    private static final Pattern CLASS = Pattern.compile("^ *(private|public)? ?(static )?(final )?(class|enum|record|interface) .*\\{$");

    private final String[] lines;
    private final String code;

    private LanguageTest(String text) {
        lines = text.split("\n", -1);
        code = text.replaceAll("//[^\n]*", "").replaceAll("(?s)/\\*.*?\\*/", "");
    }

    public static void main(String[] args) throws IOException {
        byte[] bytes = Files.readAllBytes(Path.of("src/main/java/TentYard.java"));
        Check.about("LANGUAGE.md");
        LanguageTest test = new LanguageTest(new String(bytes, StandardCharsets.US_ASCII));
        test.words();
        test.imports();
        test.nothingIsMadeInCalls();
        test.sizes();
        Check.end("LanguageTest");
    }

    private void none(String rule, String pattern) {
        Matcher found = Pattern.compile(pattern).matcher(code);
        Check.holds(rule + (found.reset().find() ? " (" + found.group().trim() + ")" : ""), !found.reset().find());
    }

    private void words() {
        none("rule 2: no lambda, no method reference", "->|::");
        none("rule 3: no number with a point", "\\b(double|float)\\b");
        none("rule 5: no other static state", "static \\{|static (?!final)\\w+ \\w+ *[=;]");
        none("rule 6", "\\b(throw|throws|try|catch|finally|synchronized|assert|instanceof)\\b");
        none("rule 6", "\\b(equals|hashCode|toString)\\b");
        none("rule 4: none whose name ends in Exact", "Exact\\(");
        none("rule 13", "\\b(System\\.(?!arraycopy)|Random|Thread|Runtime)\\b?");
        none("ASCII alone", "[^\\x00-\\x7f]");
        none("rule 9: no loop without a bound", "while \\(true\\)|for \\(;|for \\([^;]*; *;");
    }

    private void imports() {
        for (String line : lines) {
            if (line.startsWith("import")) {
                Check.holds("rule 4: " + line, line.equals("import java.util.Arrays;"));
            }
        }
    }

    /** All rows are made with the object: calls make none, so that all runs find room. */
    private void nothingIsMadeInCalls() {
        String field = " +(private )?final \\w+\\[\\] \\w+ = new \\w+\\[[A-Z_ *+1]+\\];";
        String constructor = "        \\w+ = new \\w+(\\(\\)|\\[[A-Z]+\\]);";
        for (String line : lines) {
            if (line.contains("new ")) {
                Check.holds("rule 12: made in a call:" + line, line.matches(field) || line.matches(constructor));
            }
        }
    }

    private void sizes() {
        int classes = 0, start = -1, methods = 0;
        for (int i = 0; i < lines.length; i++) {
            classes += CLASS.matcher(lines[i]).matches() ? 1 : 0;
            Matcher method = METHOD.matcher(lines[i]);
            if (method.matches()) {
                methods++;
                start = i;
                Check.holds("rule 11: seven parameters at most:" + lines[i], method.group(1).split(",").length <= 7);
            }
            boolean ends = start >= 0 && lines[i].matches(" +}") && indent(lines[i]) == indent(lines[start]);
            if (ends) {
                Check.holds("rule 11: sixty lines at most:" + lines[start], i - start < 60);
                start = -1;
            }
        }
        Check.holds("methods are seen: " + methods, methods > 60);
        Check.holds("rule 11: twelve classes at most, but " + classes, classes >= 1 && classes <= 12);
    }

    private static int indent(String line) {
        return line.length() - line.stripLeading().length();
    }
}
