import java.io.IOException;
import java.lang.reflect.Constructor;
import java.lang.reflect.Field;
import java.lang.reflect.Method;
import java.lang.reflect.Modifier;
import java.nio.file.Files;
import java.nio.file.Path;
import java.util.LinkedHashMap;
import java.util.Map;
import java.util.Set;
import java.util.TreeSet;
import java.util.regex.Matcher;
import java.util.regex.Pattern;

/** The public face of the document, and those rules of LANGUAGE.md that can be seen in the text. */
public final class LanguageTest {
    private static final String FACE = """
        int activity 3; int step 4; int unstep 0; int start 2; int signal 3; int advance 1; void crash 0
        void reset 0; int time 0; int state 1; int result 1; int variable 2; int waitsAt 1; int pile 1
        int jobs 0; int job 2; int attempts 0; int attempt 2; int load 1; int signals 1
        """;
    private static final String CONSTANTS = "BAD_ARG FULL BUSY NONE IDLE WAITING DONE UNDONE STUCK BROKEN";
    private static final Pattern METHOD = Pattern.compile(
        "^    (?:public|private) (?:static )?(?:\\w+ )?(\\w+)\\(([^)]*)\\) \\{\n(.*?)^    \\}$",
        Pattern.MULTILINE | Pattern.DOTALL);
    private static final Pattern CALL = Pattern.compile("\\b([a-z]\\w*)\\(");
    private static final Set<String> NO_CALLS = Set.of("if", "for", "while", "switch", "return");
    private static final Map<String, String> BODIES = new LinkedHashMap<>();
    private static int wrong = 0;

    private LanguageTest() {
    }

    public static void main(String[] args) throws IOException {
        face();
        types();
        String text = Files.readString(Path.of("src/main/java/SagaRuns.java"))
            .replaceAll("(?s)/\\*.*?\\*/", "").replaceAll("//[^\n]*", "");
        words(text);
        arrays(text);
        methods(text);
        calls();
        System.out.println(wrong == 0 ? "the class keeps to the language" : wrong + " rules are broken");
        if (wrong != 0) {
            System.exit(1);
        }
    }

    private static void rule(int number, boolean holds, String what) {
        if (!holds) {
            wrong++;
            System.out.println("rule " + number + ": " + what);
        }
    }

    private static void face() {
        Set<String> want = new TreeSet<>();
        for (String line : FACE.strip().split("[;\n] *")) {
            want.add(line.strip());
        }
        Set<String> got = new TreeSet<>();
        Set<String> hidden = new TreeSet<>();
        for (Method method : SagaRuns.class.getDeclaredMethods()) {
            boolean isPrivate = Modifier.isPrivate(method.getModifiers());
            (isPrivate ? hidden : got).add(isPrivate ? method.getName()
                : method.getReturnType() + " " + method.getName() + " " + method.getParameterCount());
            for (Class<?> type : method.getParameterTypes()) {
                rule(1, isPrivate || type == int.class, method.getName() + " takes a " + type);
            }
        }
        rule(1, got.equals(want), "the public methods are " + got);
        for (String line : want) {
            rule(1, !hidden.contains(line.split(" ")[1]), "a private method is named as in " + line);
        }
        Constructor<?>[] made = SagaRuns.class.getDeclaredConstructors();
        rule(1, made.length == 1 && made[0].getParameterCount() == 0 && Modifier.isPublic(made[0].getModifiers()),
            "the constructor");
        rule(1, Modifier.isFinal(SagaRuns.class.getModifiers()) && Modifier.isPublic(SagaRuns.class.getModifiers()),
            "the class is not public and final");
        rule(1, SagaRuns.class.getDeclaredClasses().length == 0, "a nested class");
    }

    private static void types() {
        Set<String> constants = new TreeSet<>();
        int fields = 0;
        for (Field field : SagaRuns.class.getDeclaredFields()) {
            Class<?> type = field.getType();
            boolean isStatic = Modifier.isStatic(field.getModifiers());
            if (!Modifier.isPrivate(field.getModifiers())) {
                constants.add(field.getName());
            }
            fields += isStatic ? 0 : 1;
            Class<?> base = type.isArray() ? type.getComponentType() : type;
            rule(2, base.isPrimitive() && base != float.class && base != double.class, field + " has a wrong type");
            rule(4, !type.isArray() || Modifier.isFinal(field.getModifiers()), field + " is not final");
            rule(5, !isStatic || Modifier.isFinal(field.getModifiers()) && (type == int.class || type == long.class),
                field + " is no constant");
        }
        rule(1, constants.equals(new TreeSet<>(Set.of(CONSTANTS.split(" ")))), "the public fields are " + constants);
        rule(10, fields <= 40, fields + " fields");
    }

    private static void words(String text) {
        Matcher word = Pattern.compile("\\b(import|package|throws?|try|catch|finally|synchronized|assert|instanceof|null|"
            + "float|double|String|Math|Integer|System|Arrays|Object|this|super|interface|enum|record|native|var)\\b|->|::|\"")
            .matcher(text);
        while (word.find()) {
            rule(3, false, "'" + word.group() + "' stands in the class");
        }
    }

    private static void arrays(String text) {
        for (String line : text.split("\n")) {
            boolean isField = line.matches("    private final (\\w+)\\[\\] \\w+ = new \\1\\[[A-Z_]+\\];");
            rule(4, isField || !line.matches(".*\\bnew\\b.*"), "not a field's array: " + line);
            rule(4, isField || !line.contains("[]"), "an array handed about: " + line);
        }
    }

    private static void methods(String text) {
        Matcher method = METHOD.matcher(text);
        while (method.find()) {
            String name = method.group(1);
            rule(1, BODIES.put(name, method.group(3)) == null, name + " stands twice");
            rule(10, method.group(3).lines().count() <= 60, name + " is long");
            rule(10, method.group(2).split(",").length <= 7, name + " has many parameters");
        }
        rule(1, BODIES.size() == SagaRuns.class.getDeclaredMethods().length + 1, "methods that the scan did not see");
    }

    private static void calls() {
        for (Map.Entry<String, String> method : BODIES.entrySet()) {
            int depth = depthOf(method.getKey(), 1);
            rule(10, depth <= 6, method.getKey() + " goes " + depth + " calls deep");
            Matcher call = CALL.matcher(method.getValue());
            while (call.find()) {
                if (!NO_CALLS.contains(call.group(1))) {
                    rule(3, BODIES.containsKey(call.group(1)), "a call of " + call.group(1));
                    String arguments = argumentsFrom(method.getValue(), call.end());
                    rule(10, !CALL.matcher(arguments).find(), "a call inside " + call.group() + arguments);
                }
            }
            Matcher loop = Pattern.compile("\\b(while|do|for) ?[({][^\n]*").matcher(method.getValue());
            while (loop.find()) {
                rule(8, loop.group().matches("for \\(int (\\w+) = 0; \\1 < [^;]+; \\1\\+\\+\\) \\{"), loop.group());
            }
        }
    }

    /** The depth of calls below a method; one that comes back to itself shows as a depth of 20. */
    private static int depthOf(String name, int above) {
        int deepest = above;
        Matcher call = CALL.matcher(BODIES.get(name));
        while (call.find() && above < 20) {
            if (BODIES.containsKey(call.group(1))) {
                deepest = Math.max(deepest, depthOf(call.group(1), above + 1));
            }
        }
        return deepest;
    }

    private static String argumentsFrom(String body, int start) {
        int open = 1;
        int end = start;
        while (open > 0) {
            open += body.charAt(end) == '(' ? 1 : body.charAt(end) == ')' ? -1 : 0;
            end++;
        }
        return body.substring(start, end - 1);
    }
}
