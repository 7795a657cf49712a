import java.lang.reflect.Method;
import java.util.ArrayList;
import java.util.List;
import java.util.Map;

/**
 * Runs of calls written as text, each on a new object. A line holds calls parted by ';', and a call
 * reads "name numbers = answer"; a number or an answer may be a constant by its name, or MIN or MAX.
 */
final class Runs {
    /** What an object answers behind so many calls is free, so no test may rest on it. */
    private static final int MOST_CALLS = 512;
    /** The constants as the document tells them, so that a wrong one in the class is seen. */
    private static final Map<String, Integer> NAMED = Map.ofEntries(
        Map.entry("BAD_ARG", -1), Map.entry("FULL", -2), Map.entry("BUSY", -3), Map.entry("NONE", -4),
        Map.entry("IDLE", 0), Map.entry("WAITING", 1), Map.entry("DONE", 2), Map.entry("UNDONE", 3),
        Map.entry("STUCK", 4), Map.entry("BROKEN", 5),
        Map.entry("MIN", Integer.MIN_VALUE), Map.entry("MAX", Integer.MAX_VALUE));
    private static int calls = 0;
    private static int wrong = 0;

    private final SagaRuns runs = new SagaRuns();
    private int used = 0;

    private Runs() {
    }

    static void check(String title, String text) {
        new Runs().checkAll(title, text);
    }

    /** Runs two texts on two objects, then the same one on both: nothing may tell the objects apart. */
    static void alike(String title, String one, String other, String then) {
        Runs first = new Runs();
        Runs second = new Runs();
        first.checkAll(title, one);
        second.checkAll(title, other);
        compare(title + ", at once", first.view(), second.view());
        first.checkAll(title, then);
        second.checkAll(title, then);
        compare(title + ", later", first.view(), second.view());
        compare(title + ", what is set", first.setUp(), second.setUp());
    }

    /** The calls in the middle are refused: the object goes on as one that never had them. */
    static void refused(String title, String before, String refused, String then) {
        for (String call : callsOf(refused)) {
            if (!call.matches(".*= *(BAD_ARG|FULL|BUSY|NONE)")) {
                throw new IllegalArgumentException("this is no refused call: " + call);
            }
        }
        alike(title, before, before + ";" + refused, then);
    }

    static void due(String title, String call, long got, long want) {
        calls++;
        if (got != want) {
            wrong++;
            System.out.println(title + ": " + call + " answered " + got + ", due is " + want);
        }
    }

    static void end() {
        System.out.println(wrong == 0 ? calls + " answers are as due" : wrong + " answers are not as due");
        if (wrong != 0 || calls == 0) {
            System.exit(1);
        }
    }

    private static List<String> callsOf(String text) {
        List<String> found = new ArrayList<>();
        for (String call : text.split("[;\n]")) {
            if (!call.isBlank()) {
                found.add(call.strip());
            }
        }
        return found;
    }

    private void checkAll(String title, String text) {
        for (String call : callsOf(text)) {
            String[] sides = call.split("=");
            Object answer = answerOf(sides[0].strip());
            if (sides.length == 2) {
                due(title, sides[0].strip(), (Integer) answer, number(sides[1].strip()));
            } else if (answer != null) {
                throw new IllegalArgumentException("no answer is told for " + call);
            }
        }
    }

    private Object answerOf(String call) {
        String[] words = call.split(" +");
        Object[] numbers = new Object[words.length - 1];
        Class<?>[] types = new Class<?>[numbers.length];
        for (int n = 0; n < numbers.length; n++) {
            numbers[n] = number(words[n + 1]);
            types[n] = int.class;
        }
        used++;
        if (used > MOST_CALLS) {
            throw new IllegalStateException("the run is longer than " + MOST_CALLS + " calls");
        }
        try {
            Method method = SagaRuns.class.getMethod(words[0], types);
            return method.invoke(runs, numbers);
        } catch (ReflectiveOperationException e) {
            throw new IllegalStateException("the call " + call + " threw or is not there", e);
        }
    }

    private static int number(String word) {
        if (word.matches("-?[0-9]+")) {
            return Integer.parseInt(word);
        }
        Integer named = NAMED.get(word);
        if (named == null) {
            throw new IllegalArgumentException("there is no number " + word);
        }
        return named;
    }

    /** All that can be asked of the runs without changing anything. */
    private List<String> view() {
        List<String> told = new ArrayList<>();
        tell(told, "time");
        for (int i = 0; i < 3; i++) {
            for (String name : new String[] {"state", "result", "waitsAt", "pile", "signals"}) {
                tell(told, name + " " + i);
            }
            for (int v = 0; v < 4; v++) {
                tell(told, "variable " + i + " " + v);
            }
        }
        for (int a = 0; a < 4; a++) {
            tell(told, "load " + a);
        }
        int jobs = tell(told, "jobs");
        for (int j = 0; j < jobs; j++) {
            for (int what = 0; what < 4; what++) {
                tell(told, "job " + j + " " + what);
            }
        }
        int attempts = tell(told, "attempts");
        for (int n = 0; n < attempts; n++) {
            tell(told, "attempt " + n + " 0");
            tell(told, "attempt " + n + " 1");
        }
        return told;
    }

    /** The settings, and how many steps there are: asking for them undoes them. */
    private List<String> setUp() {
        List<String> told = new ArrayList<>();
        answerOf("reset");
        for (int a = 0; a < 4; a++) {
            for (int what = 0; what < 7; what++) {
                tell(told, "activity " + a + " " + what + " 1");
            }
        }
        int left = tell(told, "unstep");
        for (int n = 0; n < 20 && left > 0; n++) {
            left = tell(told, "unstep");
        }
        return told;
    }

    private int tell(List<String> told, String call) {
        int answer = (Integer) answerOf(call);
        told.add(call + " answered " + answer);
        return answer;
    }

    private static void compare(String title, List<String> first, List<String> second) {
        calls++;
        for (int n = 0; n < Math.min(first.size(), second.size()); n++) {
            if (!first.get(n).equals(second.get(n))) {
                wrong++;
                System.out.println(title + ": " + second.get(n) + ", due is " + first.get(n));
                return;
            }
        }
        due(title, "the number of answers", second.size(), first.size());
    }
}
