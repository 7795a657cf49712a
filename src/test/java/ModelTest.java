import java.util.ArrayList;
import java.util.Arrays;
import java.util.List;
import java.util.Random;

/** Many runs of calls drawn from fixed seeds: the class and the model answer alike. */
public final class ModelTest {
    private static final int RUNS = 6000;
    // An object is used for 512 calls at most, and three more ask how the run ended.
    private static final int CALLS = 509;
    private static final int[] ENDS = new int[6];

    private final Random random;
    private final SagaRuns runs = new SagaRuns();
    private final Model model = new Model();
    private final List<String> told = new ArrayList<>();
    private final boolean[] isOpen = new boolean[3];
    private boolean wrong = false;

    private ModelTest(long seed) {
        random = new Random(seed);
    }

    public static void main(String[] args) {
        int wrongRuns = 0;
        for (int seed = 0; seed < RUNS && wrongRuns < 3; seed++) {
            ModelTest test = new ModelTest(seed);
            test.run();
            if (test.wrong) {
                wrongRuns++;
                System.out.println("seed " + seed + ":");
                test.told.forEach(System.out::println);
            }
        }
        for (int state = 1; state < ENDS.length; state++) {
            if (ENDS[state] < RUNS / 100) {
                System.out.println("state " + state + " came up " + ENDS[state] + " times only: the runs are too tame");
                wrongRuns++;
            }
        }
        System.out.println(wrongRuns == 0 ? RUNS + " runs are as the model's; states at the end " + Arrays.toString(ENDS)
            : wrongRuns + " runs are not as due");
        if (wrongRuns != 0) {
            System.exit(1);
        }
    }

    private void run() {
        prepare(random.nextInt(21), random.nextInt(12));
        while (told.size() < CALLS && !wrong) {
            if (told.size() < CALLS - 60 && random.nextInt(150) == 0) {
                call("reset");
                prepareAgain();
            } else if (random.nextInt(4) == 0) {
                act();
            } else {
                ask();
            }
        }
        for (int i = 0; i < 3; i++) {
            ENDS[runs.state(i)]++;
        }
    }

    private void prepare(int steps, int settings) {
        for (int n = 0; n < settings; n++) {
            setActivity();
        }
        for (int n = 0; n < steps; n++) {
            addStep();
        }
    }

    private void prepareAgain() {
        int off = random.nextInt(5);
        for (int n = 0; n < off; n++) {
            call("unstep");
        }
        prepare(random.nextInt(6), random.nextInt(4));
    }

    private void setActivity() {
        int what = random.nextInt(7);
        int[] least = {1, 1, 1, 0, 0, -9, -99};
        int[] most = {9, 3, 4, 9, 4, 9, 99};
        int x = pick(least[what], most[what]);
        call("activity", random.nextInt(4), what, random.nextInt(20) == 0 ? most[what] + 1 : x);
    }

    private void addStep() {
        int[] often = {3, 3, 4, 4, 5, 5, 6, 6, 7, 9, 10, 10};
        int kind = random.nextInt(3) > 0 ? often[random.nextInt(often.length)] : random.nextInt(13);
        if ((kind == 4 || kind == 5) && random.nextInt(12) > 0) {
            kind = isOpen[0] || isOpen[1] || isOpen[2] ? kind : 4;
            kind = isOpen[0] && isOpen[1] && isOpen[2] ? 5 : kind;
        }
        int v = random.nextInt(4);
        int w = random.nextInt(4);
        int a = random.nextInt(4);
        int h = handleFor(kind);
        switch (kind) {
            case 0 -> call("step", 0, v, random.nextBoolean() ? pick(-99, 99) : pick(-2, 5), any());
            case 1, 2 -> call("step", kind, v, w, any());
            case 3 -> call("step", 3, a, v, w);
            case 4 -> call("step", 4, a, v, h);
            case 5 -> call("step", 5, h, v, any());
            case 6 -> call("step", 6, a, v, any());
            case 8 -> call("step", 8, pick(random.nextInt(20), 19), any(), any());
            case 9 -> call("step", 9, v, w, pick(random.nextInt(20), 19));
            case 10 -> call("step", 10, random.nextInt(2), v, random.nextBoolean() ? pick(1, 50) : pick(1, 4));
            default -> call("step", kind, v, any(), any());
        }
        if (random.nextInt(30) == 0) {
            call("step", pick(-1, 13), pick(-1, 4), pick(-1, 4), pick(-1, 51));
        }
    }

    /** Mostly a handle that does not break the workflow: else few runs would get far. */
    private int handleFor(int kind) {
        int h = random.nextInt(3);
        for (int n = 0; n < 3 && random.nextInt(12) > 0 && isOpen[h] != (kind == 5); n++) {
            h = (h + 1) % 3;
        }
        isOpen[h] = kind == 4 || kind != 5 && isOpen[h];
        return h;
    }

    private void act() {
        switch (random.nextInt(12)) {
            case 0, 1, 2 -> call("start", pick(0, 2), random.nextInt(5) == 0 ? any() : pick(-3, 12));
            case 3, 4 -> call("signal", pick(0, 2), pick(0, 1), random.nextBoolean() ? any() : pick(-3, 9));
            case 5 -> call("crash");
            case 6 -> callWithWrongNumbers();
            case 7 -> call("advance", pick(0, 100));
            default -> call("advance", pick(0, 4));
        }
    }

    private void callWithWrongNumbers() {
        switch (random.nextInt(7)) {
            case 0 -> call("activity", pick(-1, 4), pick(-1, 7), pick(-1, 10));
            case 1 -> addStep();
            case 2 -> call("unstep");
            case 3 -> call("start", random.nextBoolean() ? pick(-1, 3) : any(), any());
            case 4 -> call("signal", pick(-1, 3), pick(-1, 2), any());
            case 5 -> call("advance", random.nextBoolean() ? pick(-1, 101) : any());
            default -> call("crash");
        }
    }

    private void ask() {
        int i = random.nextInt(40) == 0 ? any() : pick(-1, 3) % 3;
        int jobs = model.call("jobs", new int[0]);
        int attempts = model.call("attempts", new int[0]);
        switch (random.nextInt(12)) {
            case 0 -> call("time");
            case 1 -> call("state", i);
            case 2 -> call("result", i);
            case 3 -> call("variable", i, pick(-1, 4));
            case 4 -> call("waitsAt", i);
            case 5 -> call("pile", i);
            case 6 -> call("jobs");
            case 7 -> call("job", pick(jobs - 8, jobs), pick(-1, 4));
            case 8 -> call("attempts");
            case 9 -> call("attempt", pick(attempts - 8, attempts), pick(-1, 2));
            case 10 -> call("load", pick(-1, 4));
            default -> call("signals", i);
        }
    }

    private int pick(int least, int most) {
        return least + random.nextInt(most - least + 1);
    }

    private int any() {
        int[] edges = {Integer.MIN_VALUE, Integer.MAX_VALUE, -1, 0, 3, 20};
        return random.nextBoolean() ? edges[random.nextInt(edges.length)] : random.nextInt();
    }

    private void call(String name, int... x) {
        if (told.size() == CALLS || wrong) {
            return;
        }
        int got = callRuns(name, x);
        int want = model.call(name, x);
        wrong = got != want;
        told.add("  " + name + Arrays.toString(x) + " answered " + got + (wrong ? ", due is " + want : ""));
    }

    private int callRuns(String name, int[] x) {
        switch (name) {
            case "crash":
                runs.crash();
                return 0;
            case "reset":
                runs.reset();
                return 0;
            default:
                return answerOf(name, x);
        }
    }

    private int answerOf(String name, int[] x) {
        return switch (name) {
            case "activity" -> runs.activity(x[0], x[1], x[2]);
            case "step" -> runs.step(x[0], x[1], x[2], x[3]);
            case "unstep" -> runs.unstep();
            case "start" -> runs.start(x[0], x[1]);
            case "signal" -> runs.signal(x[0], x[1], x[2]);
            case "advance" -> runs.advance(x[0]);
            case "time" -> runs.time();
            case "state" -> runs.state(x[0]);
            case "result" -> runs.result(x[0]);
            case "variable" -> runs.variable(x[0], x[1]);
            case "waitsAt" -> runs.waitsAt(x[0]);
            case "pile" -> runs.pile(x[0]);
            case "jobs" -> runs.jobs();
            case "job" -> runs.job(x[0], x[1]);
            case "attempts" -> runs.attempts();
            case "attempt" -> runs.attempt(x[0], x[1]);
            case "load" -> runs.load(x[0]);
            case "signals" -> runs.signals(x[0]);
            default -> throw new IllegalArgumentException(name);
        };
    }
}
