import java.util.ArrayDeque;
import java.util.ArrayList;
import java.util.Comparator;
import java.util.Deque;
import java.util.List;

/**
 * The document once more, built another way: a workflow keeps nothing but the facts (when it
 * started, the signals that came, the jobs that it asked for), and is done anew from its first step
 * whenever it may go on. That is what a machine does that has lost all that it had at hand.
 */
final class Model {
    private static final class Job {
        int number;
        int activity;
        int input;
        int ended;
        int outcome = -1;
        int overAt;
        int ready;
        int end = -1;
    }

    private record Signal(int name, int number, int at) {
    }

    private final class Flow {
        boolean started;
        int startedAt;
        int x;
        final List<Job> asked = new ArrayList<>();
        final List<Signal> came = new ArrayList<>();
        int state;
        int result;
        int[] variables = new int[4];
        int at;
        Deque<int[]> pile = new ArrayDeque<>();
        List<Signal> left = new ArrayList<>();
        int clock;
        int askedAgain;

        void replay() {
            variables = new int[] {x, 0, 0, 0};
            pile = new ArrayDeque<>();
            left = new ArrayList<>(came);
            clock = startedAt;
            askedAgain = 0;
            at = 0;
            result = 0;
            state = SagaRuns.WAITING;
            Job[] handles = new Job[3];
            for (int steps = 0; state == SagaRuns.WAITING; steps++) {
                if (at >= program.size()) {
                    state = SagaRuns.DONE;
                } else if (steps == 200) {
                    state = SagaRuns.BROKEN;
                } else if (!replayStep(program.get(at), handles)) {
                    return;
                }
            }
        }

        /** Answers false where the workflow stands still: it waits, or it failed and does no steps. */
        private boolean replayStep(int[] s, Job[] handles) {
            switch (s[0]) {
                case 0 -> variables[s[1]] = s[2];
                case 1 -> variables[s[1]] = variables[s[1]] + variables[s[2]];
                case 2 -> variables[s[1]] = variables[s[1]] - variables[s[2]];
                case 3 -> {
                    return replayJob(ask(s[1], variables[s[2]]), s[3]);
                }
                case 4 -> {
                    if (handles[s[3]] != null) {
                        state = SagaRuns.BROKEN;
                        return true;
                    }
                    handles[s[3]] = ask(s[1], variables[s[2]]);
                }
                case 5 -> {
                    Job job = handles[s[1]];
                    handles[s[1]] = null;
                    return replayJob(job, s[2]);
                }
                case 6 -> pile.push(new int[] {s[1], variables[s[2]]});
                case 7 -> {
                    int until = clock + Math.max(0, Math.min(50, variables[s[1]]));
                    if (until > now) {
                        return false;
                    }
                    clock = until;
                }
                case 8 -> at = s[1] - 1;
                case 9 -> at = variables[s[1]] < variables[s[2]] ? s[3] - 1 : at;
                case 10 -> {
                    return replaySignal(s[1], s[2], clock + s[3]);
                }
                case 11 -> {
                    state = SagaRuns.DONE;
                    result = variables[s[1]];
                }
                default -> {
                    replayPile();
                    return false;
                }
            }
            at++;
            return true;
        }

        private boolean replayJob(Job job, int w) {
            if (job == null) {
                state = SagaRuns.BROKEN;
                return true;
            }
            if (job.outcome < 0) {
                return false;
            }
            clock = Math.max(clock, job.overAt);
            if (job.outcome == 0) {
                replayPile();
                return false;
            }
            variables[w] = job.input * settings[job.activity][5] + settings[job.activity][6];
            at++;
            return true;
        }

        /** A signal that comes at the very time until which the step waits comes behind its end. */
        private boolean replaySignal(int name, int w, int until) {
            for (Signal signal : left) {
                if (signal.name == name && signal.at < until) {
                    left.remove(signal);
                    clock = Math.max(clock, signal.at);
                    variables[w] = signal.number;
                    at++;
                    return true;
                }
            }
            if (until > now) {
                return false;
            }
            clock = until;
            variables[w] = -1;
            at++;
            return true;
        }

        private void replayPile() {
            while (!pile.isEmpty()) {
                Job job = ask(pile.peek()[0], pile.peek()[1]);
                if (job == null) {
                    return;
                }
                pile.pop();
                if (job.outcome < 1) {
                    state = job.outcome == 0 ? SagaRuns.STUCK : SagaRuns.WAITING;
                    return;
                }
                clock = job.overAt;
            }
            state = SagaRuns.UNDONE;
        }

        private Job ask(int activity, int input) {
            if (askedAgain == 30) {
                state = SagaRuns.BROKEN;
                return null;
            }
            if (askedAgain == asked.size()) {
                if (clock != now) {
                    throw new IllegalStateException("the model asks for a job too late");
                }
                Job job = new Job();
                job.number = all.size();
                job.activity = activity;
                job.input = input;
                job.ready = now;
                asked.add(job);
                all.add(job);
            }
            return asked.get(askedAgain++);
        }
    }

    private final int[][] settings = {
        {1, 1, 1, 0, 0, 1, 0}, {1, 1, 1, 0, 0, 1, 0}, {1, 1, 1, 0, 0, 1, 0}, {1, 1, 1, 0, 0, 1, 0}};
    private final List<int[]> program = new ArrayList<>();
    private List<Job> all = new ArrayList<>();
    private List<int[]> log = new ArrayList<>();
    private Flow[] flows = {new Flow(), new Flow(), new Flow()};
    private int now = 0;

    int call(String name, int[] x) {
        return switch (name) {
            case "activity" -> activity(x[0], x[1], x[2]);
            case "step" -> step(x);
            case "unstep" -> unstep();
            case "start" -> start(x[0], x[1]);
            case "signal" -> signal(x[0], x[1], x[2]);
            case "advance" -> advance(x[0]);
            case "crash" -> 0;
            case "reset" -> reset();
            case "time" -> now;
            case "state" -> isFlow(x[0]) ? flows[x[0]].state : SagaRuns.BAD_ARG;
            case "result" -> isFlow(x[0]) ? flows[x[0]].result : 0;
            case "variable" -> isFlow(x[0]) && x[1] >= 0 && x[1] < 4 ? flows[x[0]].variables[x[1]] : 0;
            case "waitsAt" -> isFlow(x[0]) && flows[x[0]].state == SagaRuns.WAITING ? flows[x[0]].at : SagaRuns.NONE;
            case "pile" -> isFlow(x[0]) ? flows[x[0]].pile.size() : 0;
            case "jobs" -> all.size();
            case "job" -> job(x[0], x[1]);
            case "attempts" -> log.size();
            case "attempt" -> attempt(x[0], x[1]);
            case "load" -> load(x[0]);
            case "signals" -> isFlow(x[0]) ? flows[x[0]].left.size() : 0;
            default -> throw new IllegalArgumentException(name);
        };
    }

    private static boolean isFlow(int i) {
        return i >= 0 && i < 3;
    }

    private boolean isBusy() {
        return flows[0].started || flows[1].started || flows[2].started;
    }

    private int activity(int a, int what, int x) {
        int[] least = {1, 1, 1, 0, 0, -9, -99};
        int[] most = {9, 3, 4, 9, 4, 9, 99};
        if (a < 0 || a > 3 || what < 0 || what > 6 || x < least[what] || x > most[what]) {
            return SagaRuns.BAD_ARG;
        }
        if (isBusy()) {
            return SagaRuns.BUSY;
        }
        int was = settings[a][what];
        settings[a][what] = x;
        return was;
    }

    /** One letter a number: Activity, Variable, Handle, Signal, step Number, Konstant, Duration. */
    private int step(int[] x) {
        String[] forms = {"VK", "VV", "VV", "AVV", "AVH", "HV", "AV", "V", "N", "VVN", "SVD", "V", ""};
        if (x[0] < 0 || x[0] > 12) {
            return SagaRuns.BAD_ARG;
        }
        for (int n = 0; n < forms[x[0]].length(); n++) {
            int letter = "AVHSNKD".indexOf(forms[x[0]].charAt(n));
            int least = new int[] {0, 0, 0, 0, 0, -99, 1}[letter];
            int most = new int[] {3, 3, 2, 1, 19, 99, 50}[letter];
            if (x[n + 1] < least || x[n + 1] > most) {
                return SagaRuns.BAD_ARG;
            }
        }
        if (isBusy()) {
            return SagaRuns.BUSY;
        }
        if (program.size() == 20) {
            return SagaRuns.FULL;
        }
        program.add(x.clone());
        return program.size() - 1;
    }

    private int unstep() {
        if (isBusy()) {
            return SagaRuns.BUSY;
        }
        if (program.isEmpty()) {
            return SagaRuns.NONE;
        }
        program.remove(program.size() - 1);
        return program.size();
    }

    private int start(int i, int x) {
        if (!isFlow(i)) {
            return SagaRuns.BAD_ARG;
        }
        if (flows[i].started) {
            return SagaRuns.BUSY;
        }
        flows[i].started = true;
        flows[i].startedAt = now;
        flows[i].x = x;
        flows[i].replay();
        beginAttempts();
        return flows[i].state;
    }

    private int signal(int i, int s, int x) {
        if (!isFlow(i) || s < 0 || s > 1) {
            return SagaRuns.BAD_ARG;
        }
        if (flows[i].state != SagaRuns.WAITING) {
            return SagaRuns.NONE;
        }
        if (flows[i].came.size() == 6) {
            return SagaRuns.FULL;
        }
        flows[i].came.add(new Signal(s, x, now));
        flows[i].replay();
        beginAttempts();
        return flows[i].state;
    }

    private int advance(int n) {
        if (n < 0 || n > 100) {
            return SagaRuns.BAD_ARG;
        }
        for (int t = 0; t < n; t++) {
            now++;
            for (Job job : all) {
                if (job.end == now) {
                    endAttempt(job);
                }
            }
            for (Flow flow : flows) {
                if (flow.state == SagaRuns.WAITING) {
                    flow.replay();
                }
            }
            beginAttempts();
        }
        return now;
    }

    private void endAttempt(Job job) {
        int[] set = settings[job.activity];
        job.end = -1;
        job.ended++;
        log.add(new int[] {job.number, now});
        if (job.ended > set[4]) {
            job.outcome = 1;
        } else if (job.ended == set[2]) {
            job.outcome = 0;
        }
        job.overAt = now;
        job.ready = now + set[3] * (int) Math.pow(2, job.ended - 1);
    }

    private void beginAttempts() {
        for (int a = 0; a < 4; a++) {
            int activity = a;
            long busy = all.stream().filter(job -> job.activity == activity && job.end >= 0).count();
            int duration = settings[a][0];
            all.stream().filter(job -> job.activity == activity && isReady(job))
                .sorted(Comparator.<Job>comparingInt(job -> job.ready).thenComparingInt(job -> job.number))
                .limit(settings[a][1] - busy).forEach(job -> job.end = now + duration);
        }
    }

    private boolean isReady(Job job) {
        return job.outcome < 0 && job.end < 0 && job.ready <= now;
    }

    private int reset() {
        all = new ArrayList<>();
        log = new ArrayList<>();
        flows = new Flow[] {new Flow(), new Flow(), new Flow()};
        now = 0;
        return 0;
    }

    private int job(int j, int what) {
        if (what < 0 || what > 3) {
            return SagaRuns.BAD_ARG;
        }
        if (j < 0 || j >= all.size()) {
            return SagaRuns.NONE;
        }
        Job job = all.get(j);
        return new int[] {job.activity, job.input, job.ended, job.outcome}[what];
    }

    private int attempt(int n, int what) {
        if (what < 0 || what > 1) {
            return SagaRuns.BAD_ARG;
        }
        return n < 0 || n >= log.size() ? SagaRuns.NONE : log.get(n)[what];
    }

    private int load(int a) {
        if (a < 0 || a > 3) {
            return SagaRuns.BAD_ARG;
        }
        return (int) all.stream().filter(job -> job.activity == a && (job.end >= 0 || isReady(job))).count();
    }
}
