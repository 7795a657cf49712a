/**
 * Workflows of steps that have work done by activities with few workers, retries and delays, wait
 * for time and signals, and take back what was done when they fail.
 *
 * <p>What belongs to one workflow, activity or job stands in arrays under its number; where each
 * has several of a thing, those of number i stand together from i times their count on.
 */
public final class SagaRuns {
    public static final int BAD_ARG = -1;
    public static final int FULL = -2;
    public static final int BUSY = -3;
    public static final int NONE = -4;
    public static final int IDLE = 0;
    public static final int WAITING = 1;
    public static final int DONE = 2;
    public static final int UNDONE = 3;
    public static final int STUCK = 4;
    public static final int BROKEN = 5;

    private static final int ACTIVITIES = 4;
    private static final int WORKFLOWS = 3;
    private static final int VARIABLES = 4;
    private static final int HANDLES = 3;
    private static final int SIGNAL_NAMES = 2;

    private static final int PROGRAM_LIMIT = 20;
    private static final int STEP_LIMIT = 200;
    private static final int JOB_LIMIT = 30;
    private static final int SIGNAL_LIMIT = 6;
    private static final int TRIES_LIMIT = 4;
    private static final int PAUSE_LIMIT = 50;
    private static final int ADVANCE_LIMIT = 100;

    // The settings of an activity.
    private static final int DURATION = 0;
    private static final int WORKERS = 1;
    private static final int TRIES = 2;
    private static final int DELAY = 3;
    private static final int FAILURES = 4;
    private static final int FACTOR = 5;
    private static final int SUMMAND = 6;
    private static final int SETTINGS = 7;

    // The kinds of steps.
    private static final int SET = 0;
    private static final int ADD = 1;
    private static final int SUBTRACT = 2;
    private static final int DO_JOB = 3;
    private static final int ASK_JOB = 4;
    private static final int COLLECT_JOB = 5;
    private static final int PUT_ON_PILE = 6;
    private static final int PAUSE = 7;
    private static final int GO_TO = 8;
    private static final int GO_TO_IF_LESS = 9;
    private static final int AWAIT_SIGNAL = 10;
    private static final int FINISH = 11;
    private static final int FAIL = 12;

    // How a job came out, as the call job answers it.
    private static final int NOT_OVER = -1;
    private static final int FAILED = 0;
    private static final int SUCCEEDED = 1;

    private static final int NO_JOB = -1;
    private static final int NO_SIGNAL = -1;
    private static final int NO_NUMBER = -1;

    private static final int SETTINGS_ROOM = ACTIVITIES * SETTINGS;
    private static final int VARIABLES_ROOM = WORKFLOWS * VARIABLES;
    private static final int HANDLES_ROOM = WORKFLOWS * HANDLES;
    private static final int SIGNALS_ROOM = WORKFLOWS * SIGNAL_LIMIT;
    // A step puts one job on the pile at the most, so no pile outgrows the steps.
    private static final int PILES_ROOM = WORKFLOWS * STEP_LIMIT;
    private static final int JOBS_ROOM = WORKFLOWS * JOB_LIMIT;
    private static final int ATTEMPTS_ROOM = JOBS_ROOM * TRIES_LIMIT;

    // A workflow begins and ends each of its steps once at the most, and then ends or takes back
    // until time must pass: this stands far above that.
    private static final int MOVE_BOUND = 10 * STEP_LIMIT;

    private final int[] settings = new int[SETTINGS_ROOM];

    private final int[] stepKind = new int[PROGRAM_LIMIT];
    private final int[] stepP = new int[PROGRAM_LIMIT];
    private final int[] stepQ = new int[PROGRAM_LIMIT];
    private final int[] stepR = new int[PROGRAM_LIMIT];
    private int stepCount;

    private int now;

    private final int[] flowState = new int[WORKFLOWS];
    private final int[] flowStep = new int[WORKFLOWS];
    private final boolean[] isInStep = new boolean[WORKFLOWS];
    private final boolean[] takesBack = new boolean[WORKFLOWS];
    private final int[] awaitedJob = new int[WORKFLOWS];
    private final int[] awaitedTime = new int[WORKFLOWS];
    private final int[] stepsDone = new int[WORKFLOWS];
    private final int[] jobsAsked = new int[WORKFLOWS];
    private final int[] endValue = new int[WORKFLOWS];
    private final int[] variables = new int[VARIABLES_ROOM];
    private final int[] handles = new int[HANDLES_ROOM];

    private final int[] pileSize = new int[WORKFLOWS];
    private final int[] pileActivity = new int[PILES_ROOM];
    private final int[] pileInput = new int[PILES_ROOM];

    private final int[] signalCount = new int[WORKFLOWS];
    private final int[] signalName = new int[SIGNALS_ROOM];
    private final int[] signalNumber = new int[SIGNALS_ROOM];
    private final boolean[] signalTaken = new boolean[SIGNALS_ROOM];

    private int jobCount;
    private final int[] jobActivity = new int[JOBS_ROOM];
    private final int[] jobInput = new int[JOBS_ROOM];
    private final int[] jobOutcome = new int[JOBS_ROOM];
    private final int[] attemptsEnded = new int[JOBS_ROOM];
    private final boolean[] isUnderWay = new boolean[JOBS_ROOM];
    private final int[] readyAt = new int[JOBS_ROOM];
    private final int[] endsAt = new int[JOBS_ROOM];

    private int attemptCount;
    private final int[] attemptJob = new int[ATTEMPTS_ROOM];
    private final int[] attemptEnd = new int[ATTEMPTS_ROOM];

    public SagaRuns() {
        for (int a = 0; a < ACTIVITIES; a++) {
            settings[a * SETTINGS + DURATION] = 1;
            settings[a * SETTINGS + WORKERS] = 1;
            settings[a * SETTINGS + TRIES] = 1;
            settings[a * SETTINGS + FACTOR] = 1;
        }
        forgetRuns();
    }

    public int activity(int a, int what, int x) {
        if (!isIn(a, 0, ACTIVITIES - 1) || !isSetting(what, x)) {
            return BAD_ARG;
        }
        if (isAnyStarted()) {
            return BUSY;
        }
        int place = a * SETTINGS + what;
        int before = settings[place];
        settings[place] = x;
        return before;
    }

    public int step(int kind, int p, int q, int r) {
        if (!isStep(kind, p, q, r)) {
            return BAD_ARG;
        }
        if (isAnyStarted()) {
            return BUSY;
        }
        if (stepCount >= PROGRAM_LIMIT) {
            return FULL;
        }
        int k = stepCount;
        stepKind[k] = kind;
        stepP[k] = p;
        stepQ[k] = q;
        stepR[k] = r;
        stepCount++;
        return k;
    }

    public int unstep() {
        if (isAnyStarted()) {
            return BUSY;
        }
        if (stepCount == 0) {
            return NONE;
        }
        stepCount--;
        return stepCount;
    }

    public int start(int i, int x) {
        if (!isWorkflow(i)) {
            return BAD_ARG;
        }
        if (flowState[i] != IDLE) {
            return BUSY;
        }
        flowState[i] = WAITING;
        variables[i * VARIABLES] = x;
        goOn(i);
        beginReadyAttempts();
        return flowState[i];
    }

    public int signal(int i, int s, int x) {
        if (!isWorkflow(i) || !isIn(s, 0, SIGNAL_NAMES - 1)) {
            return BAD_ARG;
        }
        if (flowState[i] != WAITING) {
            return NONE;
        }
        if (signalCount[i] >= SIGNAL_LIMIT) {
            return FULL;
        }
        int place = i * SIGNAL_LIMIT + signalCount[i];
        signalName[place] = s;
        signalNumber[place] = x;
        signalTaken[place] = false;
        signalCount[i]++;
        goOn(i);
        beginReadyAttempts();
        return flowState[i];
    }

    public int advance(int n) {
        if (!isIn(n, 0, ADVANCE_LIMIT)) {
            return BAD_ARG;
        }
        for (int passed = 0; passed < n; passed++) {
            now++;
            endDueAttempts();
            for (int i = 0; i < WORKFLOWS; i++) {
                goOn(i);
            }
            beginReadyAttempts();
        }
        return now;
    }

    public void crash() {
        // Nothing is at hand between calls: what each step did is put on record as it is done.
    }

    public void reset() {
        forgetRuns();
    }

    public int time() {
        return now;
    }

    public int state(int i) {
        return isWorkflow(i) ? flowState[i] : BAD_ARG;
    }

    public int result(int i) {
        return isWorkflow(i) ? endValue[i] : 0;
    }

    public int variable(int i, int v) {
        return isWorkflow(i) && isVariable(v) ? variables[i * VARIABLES + v] : 0;
    }

    public int waitsAt(int i) {
        return isWorkflow(i) && flowState[i] == WAITING ? flowStep[i] : NONE;
    }

    public int pile(int i) {
        return isWorkflow(i) ? pileSize[i] : 0;
    }

    public int jobs() {
        return jobCount;
    }

    public int job(int j, int what) {
        if (!isIn(what, 0, 3)) {
            return BAD_ARG;
        }
        if (!isIn(j, 0, jobCount - 1)) {
            return NONE;
        }
        switch (what) {
            case 0:
                return jobActivity[j];
            case 1:
                return jobInput[j];
            case 2:
                return attemptsEnded[j];
            default:
                return jobOutcome[j];
        }
    }

    public int attempts() {
        return attemptCount;
    }

    public int attempt(int n, int what) {
        if (!isIn(what, 0, 1)) {
            return BAD_ARG;
        }
        if (!isIn(n, 0, attemptCount - 1)) {
            return NONE;
        }
        return what == 0 ? attemptJob[n] : attemptEnd[n];
    }

    public int load(int a) {
        if (!isIn(a, 0, ACTIVITIES - 1)) {
            return BAD_ARG;
        }
        int count = 0;
        for (int j = 0; j < jobCount; j++) {
            if (jobActivity[j] == a && (isUnderWay[j] || isReady(j))) {
                count++;
            }
        }
        return count;
    }

    public int signals(int i) {
        if (!isWorkflow(i)) {
            return 0;
        }
        int count = 0;
        for (int n = 0; n < signalCount[i]; n++) {
            if (!signalTaken[i * SIGNAL_LIMIT + n]) {
                count++;
            }
        }
        return count;
    }

    private static boolean isIn(int x, int least, int most) {
        return least <= x && x <= most;
    }

    private static boolean isWorkflow(int i) {
        return isIn(i, 0, WORKFLOWS - 1);
    }

    private static boolean isVariable(int v) {
        return isIn(v, 0, VARIABLES - 1);
    }

    private static boolean isSetting(int what, int x) {
        switch (what) {
            case DURATION:
                return isIn(x, 1, 9);
            case WORKERS:
                return isIn(x, 1, 3);
            case TRIES:
                return isIn(x, 1, TRIES_LIMIT);
            case DELAY:
                return isIn(x, 0, 9);
            case FAILURES:
                return isIn(x, 0, 4);
            case FACTOR:
                return isIn(x, -9, 9);
            case SUMMAND:
                return isIn(x, -99, 99);
            default:
                return false;
        }
    }

    private static boolean isStep(int kind, int p, int q, int r) {
        switch (kind) {
            case SET:
                return isVariable(p) && isIn(q, -99, 99);
            case ADD:
            case SUBTRACT:
                return isVariable(p) && isVariable(q);
            case DO_JOB:
                return isIn(p, 0, ACTIVITIES - 1) && isVariable(q) && isVariable(r);
            case ASK_JOB:
                return isIn(p, 0, ACTIVITIES - 1) && isVariable(q) && isIn(r, 0, HANDLES - 1);
            case COLLECT_JOB:
                return isIn(p, 0, HANDLES - 1) && isVariable(q);
            case PUT_ON_PILE:
                return isIn(p, 0, ACTIVITIES - 1) && isVariable(q);
            case PAUSE:
            case FINISH:
                return isVariable(p);
            case GO_TO:
                return isIn(p, 0, PROGRAM_LIMIT - 1);
            case GO_TO_IF_LESS:
                return isVariable(p) && isVariable(q) && isIn(r, 0, PROGRAM_LIMIT - 1);
            case AWAIT_SIGNAL:
                return isIn(p, 0, SIGNAL_NAMES - 1) && isVariable(q) && isIn(r, 1, 50);
            case FAIL:
                return true;
            default:
                return false;
        }
    }

    private boolean isAnyStarted() {
        boolean found = false;
        for (int i = 0; i < WORKFLOWS; i++) {
            found = found || flowState[i] != IDLE;
        }
        return found;
    }

    private void forgetRuns() {
        now = 0;
        jobCount = 0;
        attemptCount = 0;
        for (int i = 0; i < WORKFLOWS; i++) {
            flowState[i] = IDLE;
            flowStep[i] = 0;
            isInStep[i] = false;
            takesBack[i] = false;
            awaitedJob[i] = NO_JOB;
            awaitedTime[i] = 0;
            stepsDone[i] = 0;
            jobsAsked[i] = 0;
            endValue[i] = 0;
            pileSize[i] = 0;
            signalCount[i] = 0;
        }
        for (int n = 0; n < VARIABLES_ROOM; n++) {
            variables[n] = 0;
        }
        for (int n = 0; n < HANDLES_ROOM; n++) {
            handles[n] = NO_JOB;
        }
    }

    /** Lets workflow i do all that it can without time passing. */
    private void goOn(int i) {
        boolean moves = true;
        for (int n = 0; n < MOVE_BOUND && moves && flowState[i] == WAITING; n++) {
            if (takesBack[i]) {
                takeBack(i);
                moves = false;
            } else if (isInStep[i]) {
                moves = endStep(i);
            } else {
                beginStep(i);
            }
        }
    }

    private void beginStep(int i) {
        int k = flowStep[i];
        if (k >= stepCount) {
            flowState[i] = DONE;
        } else if (stepsDone[i] >= STEP_LIMIT) {
            flowState[i] = BROKEN;
        } else {
            stepsDone[i]++;
            if (isWaitingKind(stepKind[k])) {
                beginWait(i, k);
            } else {
                doAtOnce(i, k);
            }
        }
    }

    private static boolean isWaitingKind(int kind) {
        return kind == DO_JOB || kind == COLLECT_JOB || kind == PAUSE || kind == AWAIT_SIGNAL;
    }

    private void doAtOnce(int i, int k) {
        int first = i * VARIABLES;
        int p = stepP[k];
        int q = stepQ[k];
        flowStep[i] = k + 1;
        switch (stepKind[k]) {
            case SET:
                variables[first + p] = q;
                break;
            case ADD:
                variables[first + p] += variables[first + q];
                break;
            case SUBTRACT:
                variables[first + p] -= variables[first + q];
                break;
            case ASK_JOB:
                askIntoHandle(i, k);
                break;
            case PUT_ON_PILE:
                putOnPile(i, p, variables[first + q]);
                break;
            case GO_TO:
                flowStep[i] = p;
                break;
            case GO_TO_IF_LESS:
                if (variables[first + p] < variables[first + q]) {
                    flowStep[i] = stepR[k];
                }
                break;
            case FINISH:
                flowState[i] = DONE;
                endValue[i] = variables[first + p];
                break;
            default:
                failAt(i, k);
                break;
        }
    }

    private void askIntoHandle(int i, int k) {
        int place = i * HANDLES + stepR[k];
        if (handles[place] != NO_JOB) {
            flowState[i] = BROKEN;
        } else {
            handles[place] = askFor(i, stepP[k], variables[i * VARIABLES + stepQ[k]]);
        }
    }

    private void putOnPile(int i, int a, int input) {
        int place = i * STEP_LIMIT + pileSize[i];
        pileActivity[place] = a;
        pileInput[place] = input;
        pileSize[i]++;
    }

    private void failAt(int i, int k) {
        flowStep[i] = k;
        takesBack[i] = true;
        awaitedJob[i] = NO_JOB;
    }

    private void beginWait(int i, int k) {
        int first = i * VARIABLES;
        isInStep[i] = true;
        switch (stepKind[k]) {
            case DO_JOB:
                awaitedJob[i] = askFor(i, stepP[k], variables[first + stepQ[k]]);
                break;
            case COLLECT_JOB:
                awaitHandle(i, i * HANDLES + stepP[k]);
                break;
            case PAUSE:
                awaitedTime[i] = now + pauseOf(variables[first + stepP[k]]);
                break;
            default:
                awaitedTime[i] = now + stepR[k];
                break;
        }
    }

    private void awaitHandle(int i, int place) {
        if (handles[place] == NO_JOB) {
            flowState[i] = BROKEN;
        } else {
            awaitedJob[i] = handles[place];
            handles[place] = NO_JOB;
        }
    }

    private static int pauseOf(int value) {
        if (value < 0) {
            return 0;
        }
        return value > PAUSE_LIMIT ? PAUSE_LIMIT : value;
    }

    /** Ends the step at which workflow i waits; answers false if it must wait on. */
    private boolean endStep(int i) {
        int k = flowStep[i];
        switch (stepKind[k]) {
            case DO_JOB:
                return endJobStep(i, stepR[k]);
            case COLLECT_JOB:
                return endJobStep(i, stepQ[k]);
            case PAUSE:
                return endPause(i);
            default:
                return endSignalStep(i, k);
        }
    }

    private boolean endJobStep(int i, int w) {
        int j = awaitedJob[i];
        if (j == NO_JOB || jobOutcome[j] == NOT_OVER) {
            return false;
        }
        if (jobOutcome[j] == FAILED) {
            failAt(i, flowStep[i]);
        } else {
            variables[i * VARIABLES + w] = resultOf(j);
            leaveStep(i);
        }
        return true;
    }

    private boolean endPause(int i) {
        if (now < awaitedTime[i]) {
            return false;
        }
        leaveStep(i);
        return true;
    }

    private boolean endSignalStep(int i, int k) {
        int place = firstSignal(i, stepP[k]);
        if (place == NO_SIGNAL && now < awaitedTime[i]) {
            return false;
        }
        int number = NO_NUMBER;
        if (place != NO_SIGNAL) {
            number = signalNumber[place];
            signalTaken[place] = true;
        }
        variables[i * VARIABLES + stepQ[k]] = number;
        leaveStep(i);
        return true;
    }

    private int firstSignal(int i, int s) {
        for (int n = 0; n < signalCount[i]; n++) {
            int place = i * SIGNAL_LIMIT + n;
            if (!signalTaken[place] && signalName[place] == s) {
                return place;
            }
        }
        return NO_SIGNAL;
    }

    private void leaveStep(int i) {
        isInStep[i] = false;
        flowStep[i]++;
    }

    /** Goes on with the pile of workflow i, which failed; then it has ended or waits for a job. */
    private void takeBack(int i) {
        int j = awaitedJob[i];
        int outcome = j == NO_JOB ? SUCCEEDED : jobOutcome[j];
        if (outcome == FAILED) {
            flowState[i] = STUCK;
        } else if (outcome == SUCCEEDED) {
            takeBackLast(i);
        }
    }

    private void takeBackLast(int i) {
        if (pileSize[i] == 0) {
            flowState[i] = UNDONE;
            return;
        }
        int place = i * STEP_LIMIT + pileSize[i] - 1;
        awaitedJob[i] = askFor(i, pileActivity[place], pileInput[place]);
        // A job that was one too many was not asked for: it stays on the pile.
        if (awaitedJob[i] != NO_JOB) {
            pileSize[i]--;
        }
    }

    /** Answers the new job's number; if it is one too many, workflow i is BROKEN and has NO_JOB. */
    private int askFor(int i, int a, int input) {
        if (jobsAsked[i] >= JOB_LIMIT) {
            flowState[i] = BROKEN;
            return NO_JOB;
        }
        int j = jobCount;
        jobActivity[j] = a;
        jobInput[j] = input;
        jobOutcome[j] = NOT_OVER;
        attemptsEnded[j] = 0;
        isUnderWay[j] = false;
        readyAt[j] = now;
        jobsAsked[i]++;
        jobCount++;
        return j;
    }

    private int resultOf(int j) {
        int first = jobActivity[j] * SETTINGS;
        return jobInput[j] * settings[first + FACTOR] + settings[first + SUMMAND];
    }

    private void endDueAttempts() {
        for (int j = 0; j < jobCount; j++) {
            if (isUnderWay[j] && endsAt[j] == now) {
                endAttempt(j);
            }
        }
    }

    private void endAttempt(int j) {
        int first = jobActivity[j] * SETTINGS;
        attemptJob[attemptCount] = j;
        attemptEnd[attemptCount] = now;
        attemptCount++;
        isUnderWay[j] = false;
        attemptsEnded[j]++;
        int ended = attemptsEnded[j];
        if (ended > settings[first + FAILURES]) {
            jobOutcome[j] = SUCCEEDED;
        } else if (ended >= settings[first + TRIES]) {
            jobOutcome[j] = FAILED;
        } else {
            readyAt[j] = now + (settings[first + DELAY] << (ended - 1));
        }
    }

    private void beginReadyAttempts() {
        for (int a = 0; a < ACTIVITIES; a++) {
            int free = freeWorkers(a);
            for (int n = 0; n < free; n++) {
                int j = firstReady(a);
                if (j != NO_JOB) {
                    isUnderWay[j] = true;
                    endsAt[j] = now + settings[a * SETTINGS + DURATION];
                }
            }
        }
    }

    private int freeWorkers(int a) {
        int free = settings[a * SETTINGS + WORKERS];
        for (int j = 0; j < jobCount; j++) {
            if (jobActivity[j] == a && isUnderWay[j]) {
                free--;
            }
        }
        return free;
    }

    private int firstReady(int a) {
        int best = NO_JOB;
        for (int j = 0; j < jobCount; j++) {
            if (jobActivity[j] == a && isReady(j) && (best == NO_JOB || readyAt[j] < readyAt[best])) {
                best = j;
            }
        }
        return best;
    }

    private boolean isReady(int j) {
        return jobOutcome[j] == NOT_OVER && !isUnderWay[j] && readyAt[j] <= now;
    }
}
