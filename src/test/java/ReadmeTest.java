import java.io.IOException;
import java.lang.reflect.Method;
import java.lang.reflect.Modifier;
import java.nio.file.Files;
import java.nio.file.Path;
import java.util.List;
import java.util.regex.Matcher;
import java.util.regex.Pattern;

/** README.md tells the truth: its examples answer as they say, and it names all that there is. */
public final class ReadmeTest {
    private static final Pattern EXAMPLE = Pattern.compile("```java\n(.*?)```", Pattern.DOTALL);
    private static final Pattern CALL = Pattern.compile("runs\\.(\\w+)\\(([^)]*)\\);(?: +// ([^:]+)(?::.*)?)?");

    private ReadmeTest() {
    }

    public static void main(String[] args) throws IOException {
        String text = Files.readString(Path.of("README.md"));
        examples(text);
        calls(text);
        kinds(text);
        tests(text);
        Runs.end();
    }

    private static void examples(String text) {
        Matcher example = EXAMPLE.matcher(text);
        int found = 0;
        while (example.find()) {
            found++;
            Runs.check("example " + found, runOf(example.group(1)));
        }
        Runs.due("README.md", "the number of examples", found, 2);
    }

    private static String runOf(String example) {
        StringBuilder run = new StringBuilder();
        for (String line : example.strip().split("\n")) {
            if (line.equals("SagaRuns runs = new SagaRuns();")) {
                continue;
            }
            Matcher call = CALL.matcher(line);
            if (!call.matches()) {
                throw new IllegalArgumentException("this is no call: " + line);
            }
            run.append(call.group(1)).append(' ').append(call.group(2).replace(",", ""));
            run.append(call.group(3) == null ? "" : " = " + call.group(3)).append('\n');
        }
        return run.toString();
    }

    private static void calls(String text) {
        for (Method method : SagaRuns.class.getDeclaredMethods()) {
            if (Modifier.isPublic(method.getModifiers())) {
                has(text, "`" + method.getName() + "(");
            }
        }
        for (String code : List.of("BAD_ARG", "FULL", "BUSY", "NONE", "IDLE", "WAITING", "DONE", "UNDONE", "STUCK", "BROKEN")) {
            has(text, "`" + code + "`");
        }
    }

    private static void kinds(String text) {
        for (int kind = 0; kind <= 12; kind++) {
            has(text, "\n| " + kind + " |");
        }
    }

    private static void tests(String text) throws IOException {
        try (var files = Files.list(Path.of("src/test/java"))) {
            for (Path file : files.toList()) {
                String name = file.getFileName().toString().replace(".java", "");
                if (name.endsWith("Test")) {
                    has(text, "| " + name + " |");
                }
            }
        }
    }

    private static void has(String text, String word) {
        Runs.due("README.md", "has " + word, text.contains(word) ? 1 : 0, 1);
    }
}
