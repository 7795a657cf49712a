/** Promises 1 to 4: a new object, activity, step and unstep. */
public final class SetUpTest {
    private SetUpTest() {
    }

    public static void main(String[] args) {
        constants();
        newObject();
        activity();
        activityRanges();
        stepRanges();
        stepOrder();
        unstep();
        Runs.end();
    }

    private static void constants() {
        Runs.due("constants", "BAD_ARG", SagaRuns.BAD_ARG, -1);
        Runs.due("constants", "FULL", SagaRuns.FULL, -2);
        Runs.due("constants", "BUSY", SagaRuns.BUSY, -3);
        Runs.due("constants", "NONE", SagaRuns.NONE, -4);
        Runs.due("constants", "IDLE", SagaRuns.IDLE, 0);
        Runs.due("constants", "WAITING", SagaRuns.WAITING, 1);
        Runs.due("constants", "DONE", SagaRuns.DONE, 2);
        Runs.due("constants", "UNDONE", SagaRuns.UNDONE, 3);
        Runs.due("constants", "STUCK", SagaRuns.STUCK, 4);
        Runs.due("constants", "BROKEN", SagaRuns.BROKEN, 5);
    }

    private static void newObject() {
        for (int a = 0; a < 4; a++) {
            Runs.check("promise 1: settings of activity " + a, """
                activity A 0 9 = 1; activity A 1 3 = 1; activity A 2 4 = 1; activity A 3 9 = 0
                activity A 4 4 = 0; activity A 5 9 = 1; activity A 6 99 = 0
                """.replace("A", "" + a));
        }
        Runs.check("promise 1: no step, no workflow", """
            state 0 = IDLE; state 1 = IDLE; state 2 = IDLE
            time = 0; jobs = 0; attempts = 0; load 0 = 0; load 1 = 0; load 2 = 0; load 3 = 0
            unstep = NONE
            """);
    }

    private static void activity() {
        Runs.check("promise 2: answers what it was, of that activity and setting alone", """
            activity 1 0 4 = 1; activity 1 0 9 = 4; activity 1 0 1 = 9
            activity 1 5 -9 = 1; activity 1 5 3 = -9; activity 1 6 -99 = 0; activity 1 6 5 = -99
            activity 2 0 2 = 1; activity 0 0 2 = 1; activity 1 1 2 = 1; activity 1 5 1 = 3
            """);
        Runs.check("promise 2: a refused call changes nothing", """
            activity 3 0 5 = 1; activity 3 0 10 = BAD_ARG; activity 3 0 0 = BAD_ARG
            activity 3 0 5 = 5; start 0 0 = DONE; activity 3 0 6 = BUSY; reset; activity 3 0 5 = 5
            """);
        Runs.check("promise 2: BAD_ARG is tested before BUSY", """
            start 2 0 = DONE
            activity 4 0 1 = BAD_ARG; activity -1 0 1 = BAD_ARG; activity 0 7 1 = BAD_ARG
            activity 0 -1 1 = BAD_ARG; activity 0 0 10 = BAD_ARG; activity 0 0 1 = BUSY
            """);
    }

    private static void activityRanges() {
        int[] least = {1, 1, 1, 0, 0, -9, -99};
        int[] most = {9, 3, 4, 9, 4, 9, 99};
        SagaRuns runs = new SagaRuns();
        for (int what = 0; what < 7; what++) {
            String call = "activity(0, " + what + ", ..)";
            runs.activity(0, what, least[what]);
            Runs.due("promise 2: least", call, runs.activity(0, what, most[what]), least[what]);
            Runs.due("promise 2: under", call, runs.activity(0, what, least[what] - 1), -1);
            Runs.due("promise 2: over", call, runs.activity(0, what, most[what] + 1), -1);
            Runs.due("promise 2: far over", call, runs.activity(0, what, Integer.MAX_VALUE), -1);
            Runs.due("promise 2: far under", call, runs.activity(0, what, Integer.MIN_VALUE), -1);
            Runs.due("promise 2: most", call, runs.activity(0, what, least[what]), most[what]);
        }
        Runs.check("promise 2: wrong numbers", """
            activity MAX 0 1 = BAD_ARG; activity MIN 0 1 = BAD_ARG
            activity 0 MAX 1 = BAD_ARG; activity 0 MIN 1 = BAD_ARG
            """);
    }

    /** The least and the most of p, q and r of each kind; a range of all ints does not matter. */
    private static void stepRanges() {
        int[] any = {Integer.MIN_VALUE, Integer.MAX_VALUE};
        int[] activity = {0, 3};
        int[] variable = {0, 3};
        int[] handle = {0, 2};
        int[] signal = {0, 1};
        int[] constant = {-99, 99};
        int[] number = {0, 19};
        int[] time = {1, 50};
        int[][][] ranges = {
            {variable, constant, any}, {variable, variable, any}, {variable, variable, any},
            {activity, variable, variable}, {activity, variable, handle}, {handle, variable, any},
            {activity, variable, any}, {variable, any, any}, {number, any, any},
            {variable, variable, number}, {signal, variable, time}, {variable, any, any},
            {any, any, any}};
        for (int kind = 0; kind < ranges.length; kind++) {
            for (int place = 0; place < 3; place++) {
                stepRange(kind, place, ranges[kind]);
            }
        }
        Runs.check("promise 3: kinds there are not", """
            step -1 0 0 1 = BAD_ARG; step 13 0 0 1 = BAD_ARG
            step MAX 0 0 1 = BAD_ARG; step MIN 0 0 1 = BAD_ARG; unstep = NONE
            """);
    }

    private static void stepRange(int kind, int place, int[][] range) {
        for (int side = 0; side < 2; side++) {
            int[] numbers = {range[0][side], range[1][side], range[2][side]};
            stepDue(kind, numbers, 0);
            int out = side == 0 ? range[place][0] - 1 : range[place][1] + 1;
            boolean matters = range[place][0] != Integer.MIN_VALUE;
            numbers[place] = out;
            stepDue(kind, numbers, matters ? SagaRuns.BAD_ARG : 0);
            numbers[place] = side == 0 ? Integer.MIN_VALUE : Integer.MAX_VALUE;
            stepDue(kind, numbers, matters ? SagaRuns.BAD_ARG : 0);
        }
    }

    private static void stepDue(int kind, int[] numbers, int want) {
        SagaRuns runs = new SagaRuns();
        int got = runs.step(kind, numbers[0], numbers[1], numbers[2]);
        String call = "step(" + kind + ", " + numbers[0] + ", " + numbers[1] + ", " + numbers[2] + ")";
        Runs.due("promise 3: ranges", call, got, want);
        Runs.due("promise 3: ranges, behind " + call, "unstep()", runs.unstep(),
            want == 0 ? 0 : SagaRuns.NONE);
    }

    private static void stepOrder() {
        SagaRuns runs = new SagaRuns();
        for (int k = 0; k < 20; k++) {
            Runs.due("promise 3: numbers", "step(7, 1, 0, 0)", runs.step(7, 1, 0, 0), k);
        }
        Runs.due("promise 3: the 21st", "step(7, 1, 0, 0)", runs.step(7, 1, 0, 0), SagaRuns.FULL);
        Runs.due("promise 3: BAD_ARG before FULL", "step(7, 4, 0, 0)", runs.step(7, 4, 0, 0), SagaRuns.BAD_ARG);
        Runs.due("promise 3: full", "start(0, 0)", runs.start(0, 0), SagaRuns.DONE);
        Runs.due("promise 3: BUSY before FULL", "step(7, 1, 0, 0)", runs.step(7, 1, 0, 0), SagaRuns.BUSY);
        Runs.due("promise 3: BAD_ARG before BUSY", "step(7, 4, 0, 0)", runs.step(7, 4, 0, 0), SagaRuns.BAD_ARG);
        runs.reset();
        Runs.due("promise 3: refused calls change nothing", "unstep()", runs.unstep(), 19);
        Runs.check("promise 3: unused numbers are not looked at when the step is done", """
            step 0 0 5 MAX = 0; step 1 0 0 MIN = 1; step 7 1 MAX MIN = 2; step 8 4 MAX MIN = 3
            step 11 0 MAX MIN = 4; start 0 1 = DONE; result 0 = 10
            reset; unstep = 4; step 12 MAX MIN MAX = 4; start 0 1 = UNDONE
            """);
    }

    private static void unstep() {
        Runs.check("promise 4: takes the last step off", """
            unstep = NONE; step 0 0 7 0 = 0; step 11 0 0 0 = 1; step 12 0 0 0 = 2
            unstep = 2; start 0 1 = DONE; result 0 = 7
            reset; unstep = 1; start 0 1 = DONE; result 0 = 0
            reset; unstep = 0; unstep = NONE; step 11 0 0 0 = 0; start 0 6 = DONE; result 0 = 6
            """);
        Runs.check("promise 4: BUSY is tested before NONE", """
            start 1 0 = DONE; unstep = BUSY; reset; unstep = NONE
            """);
        Runs.check("promise 4: BUSY while one waits", """
            step 7 0 0 0 = 0; start 2 5 = WAITING; unstep = BUSY; advance 9 = 9; unstep = BUSY
            reset; unstep = 0
            """);
    }
}
