import java.lang.reflect.Method;

/**
 * Runs of calls written as text, each on a new object. A line holds calls parted by ';', and a call
 * reads "name numbers = answer"; a number or an answer may be a constant of the class by its name.
 */
final class Runs {
    private static int calls = 0;
    private static int wrong = 0;

    private Runs() {
    }

    static void check(String title, String text) {
        SagaRuns runs = new SagaRuns();
        for (String line : text.split("[;\n]")) {
            if (!line.isBlank()) {
                checkCall(title, runs, line.strip());
            }
        }
    }

    static void due(String title, String call, long got, long want) {
        calls++;
        if (got != want) {
            wrong++;
            System.out.println(title + ": " + call + " answered " + got + ", due is " + want);
        }
    }

    static void end() {
        System.out.println(wrong == 0 ? calls + " answers are as due" : wrong + " answers are not as due");
        if (wrong != 0 || calls == 0) {
            System.exit(1);
        }
    }

    private static void checkCall(String title, SagaRuns runs, String line) {
        String[] sides = line.split("=");
        String[] words = sides[0].strip().split(" +");
        Object[] numbers = new Object[words.length - 1];
        for (int n = 0; n < numbers.length; n++) {
            numbers[n] = number(words[n + 1]);
        }
        Object answer = call(runs, words[0], numbers);
        if (sides.length == 2) {
            due(title, sides[0].strip(), (Integer) answer, number(sides[1].strip()));
        } else if (answer != null) {
            throw new IllegalArgumentException("no answer is told for " + line);
        }
    }

    private static Object call(SagaRuns runs, String name, Object[] numbers) {
        Class<?>[] types = new Class<?>[numbers.length];
        java.util.Arrays.fill(types, int.class);
        try {
            Method method = SagaRuns.class.getMethod(name, types);
            return method.invoke(runs, numbers);
        } catch (ReflectiveOperationException e) {
            throw new IllegalStateException("the call " + name + " threw or is not there", e);
        }
    }

    private static int number(String word) {
        if (word.matches("-?[0-9]+")) {
            return Integer.parseInt(word);
        }
        try {
            return word.equals("MAX") ? Integer.MAX_VALUE
                : word.equals("MIN") ? Integer.MIN_VALUE : SagaRuns.class.getField(word).getInt(null);
        } catch (ReflectiveOperationException e) {
            throw new IllegalStateException("there is no constant " + word, e);
        }
    }
}
