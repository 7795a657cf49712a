/**
 * The boundary cases that the terms name before the steps: time, activities, jobs and attempts, and
 * the order of things. Each check bears the words of the document that it holds the class to.
 */
public final class TermsEdgesTest {
    private TermsEdgesTest() {
    }

    public static void main(String[] args) {
        time();
        durations();
        workers();
        triesAndFailures();
        delays();
        results();
        jobNumbers();
        readyOrder();
        attemptsEnd();
        workflowsGoOn();
        attemptsBegin();
        startAndSignal();
        noCallThrows();
        Runs.end();
    }

    private static void time() {
        Runs.check("TIME is 0 at first and goes on by the call advance only", """
            time = 0; activity 0 0 9 = 1; time = 0; step 10 0 1 9 = 0; step 3 0 0 0 = 1; time = 0; unstep = 1; time = 0
            start 0 5 = WAITING; time = 0; signal 0 1 1 = WAITING; time = 0; crash; time = 0; signal 0 0 1 = DONE; time = 0
            advance 0 = 0; time = 0; advance 1 = 1; time = 1; start 1 5 = WAITING; time = 1; start 1 5 = BUSY
            advance -1 = BAD_ARG; time = 1; advance 101 = BAD_ARG; time = 1; load 0 = 0; state 1 = WAITING; time = 1
            """);
    }

    private static void durations() {
        for (int duration = 1; duration <= 9; duration++) {
            Runs.check("a DURATION (1 to 9): keeps the worker for the duration, and then ends", """
                activity 0 0 *D = 1; step 3 0 0 1 = 0; start 0 4 = WAITING; start 1 5 = WAITING; load 0 = 2; advance *L = *L
                attempts = 0; state 0 = WAITING; load 0 = 2; advance 1 = *D; attempts = 1; attempt 0 1 = *D; state 0 = DONE
                state 1 = WAITING; load 0 = 1; advance *D = *T; attempts = 2; attempt 1 1 = *T; state 1 = DONE; load 0 = 0
                """.replace("*D", "" + duration).replace("*L", "" + (duration - 1)).replace("*T", "" + 2 * duration));
        }
    }

    private static void workers() {
        String six = "step 4 0 0 0 = 0; step 4 0 0 1 = 1; step 4 0 0 2 = 2; start 0 1 = DONE; start 1 1 = DONE; load 0 = 6;";
        Runs.check("WORKERS (1 to 3): with 1 one after the other", six + """
            advance 1 = 1; attempts = 1; advance 1 = 2; attempts = 2; advance 4 = 6; attempts = 6; attempt 5 0 = 5; attempt 5 1 = 6
            """);
        Runs.check("WORKERS (1 to 3): with 2 two at a time", "activity 0 1 2 = 1;" + six + """
            advance 1 = 1; attempts = 2; load 0 = 4; advance 1 = 2; attempts = 4; advance 1 = 3; attempts = 6; load 0 = 0
            """);
        Runs.check("WORKERS (1 to 3): with 3 three at a time", "activity 0 1 3 = 1;" + six + """
            advance 1 = 1; attempts = 3; load 0 = 3; advance 1 = 2; attempts = 6; load 0 = 0
            """);
        Runs.check("begins as soon as a worker is free: of two that began at two times the first is free first", """
            activity 0 0 5 = 1; activity 0 1 2 = 1; step 4 0 0 0 = 0; start 0 1 = DONE; advance 3 = 3; start 1 1 = DONE
            start 2 1 = DONE; load 0 = 3; advance 2 = 5; attempts = 1; advance 3 = 8; attempts = 2; attempt 1 0 = 1
            advance 1 = 9; attempts = 2; advance 1 = 10; attempts = 3; attempt 2 0 = 2
            """);
        Runs.check("a worker of the activity: those of others do not help", """
            activity 1 1 3 = 1; step 4 0 0 0 = 0; step 4 0 0 1 = 1; step 4 1 0 2 = 2; start 0 1 = DONE
            advance 1 = 1; attempts = 2; attempt 0 0 = 0; attempt 1 0 = 2; load 0 = 1; load 1 = 0
            """);
    }

    private static void triesAndFailures() {
        for (int tries = 1; tries <= 4; tries++) {
            for (int failures = 0; failures <= 4; failures++) {
                int attempts = Math.min(tries, failures + 1);
                int outcome = failures < tries ? 1 : 0;
                String run = "activity 2 2 " + tries + " = 1; activity 2 4 " + failures + " = 0; step 3 2 0 1 = 0; step 11 1 0 0 = 1;"
                    + "start 0 7 = WAITING;";
                for (int n = 1; n < attempts; n++) {
                    run += "advance 1 = " + n + "; attempts = " + n + "; job 0 2 = " + n + "; job 0 3 = -1; state 0 = WAITING; load 2 = 1;";
                }
                run += "advance 1 = " + attempts + "; attempts = " + attempts + "; job 0 2 = " + attempts + "; job 0 3 = " + outcome
                    + "; load 2 = 0; state 0 = " + (outcome == 1 ? "DONE; result 0 = 7" : "UNDONE; result 0 = 0")
                    + "; advance 100 = " + (attempts + 100) + "; attempts = " + attempts;
                Runs.check("The first FAILURES attempts of every job fail, .. OVER when .. the last of its tries failed: tries "
                    + tries + ", failures " + failures, run);
            }
        }
        Runs.check("The first FAILURES attempts of every job fail, not of every activity", """
            activity 0 2 4 = 1; activity 0 4 3 = 0; step 4 0 0 0 = 0; step 4 0 0 1 = 1; start 0 1 = DONE; advance 8 = 8
            attempts = 8; job 0 2 = 4; job 1 2 = 4; job 0 3 = 1; job 1 3 = 1
            """);
    }

    private static void delays() {
        for (int delay = 0; delay <= 9; delay++) {
            for (int duration = 1; duration <= 9; duration++) {
                SagaRuns runs = new SagaRuns();
                runs.activity(1, 0, duration);
                runs.activity(1, 2, 4);
                runs.activity(1, 3, delay);
                runs.activity(1, 4, 4);
                runs.step(3, 1, 0, 1);
                runs.start(0, 1);
                String title = "ready after delay times 2 to the power n - 1: delay " + delay + ", duration " + duration;
                int end = 0;
                for (int n = 1; n <= 4; n++) {
                    end += duration + (n == 1 ? 0 : delay << (n - 2));
                    runs.advance(end - 1 - runs.time());
                    Runs.due(title, "attempts() before " + end, runs.attempts(), n - 1);
                    runs.advance(1);
                    Runs.due(title, "attempt(" + (n - 1) + ", 1)", runs.attempt(n - 1, 1), end);
                    Runs.due(title, "load(1) at " + end, runs.load(1), n < 4 && delay == 0 ? 1 : 0);
                }
                runs.advance(100);
                Runs.due(title + ", that is not the last of the tries", "attempts()", runs.attempts(), 4);
            }
        }
        Runs.check("The first attempt is ready when the job is asked for, whatever the delay", """
            activity 0 3 9 = 0; activity 0 2 4 = 1; step 3 0 0 1 = 0; start 0 1 = WAITING; load 0 = 1; advance 1 = 1; attempts = 1
            """);
    }

    private static void results() {
        String[][] rows = {
            {"9", "99", "MAX", "-2147483558"}, {"9", "99", "MIN", "-2147483549"}, {"9", "-99", "MIN", "2147483549"},
            {"-9", "99", "MAX", "-2147483540"}, {"-9", "-99", "MIN", "2147483549"}, {"-1", "0", "MIN", "MIN"},
            {"-1", "-1", "MIN", "MAX"}, {"1", "1", "MAX", "MIN"}, {"1", "-1", "MIN", "MAX"}, {"2", "0", "MIN", "0"},
            {"2", "0", "MAX", "-2"}, {"2", "0", "1073741824", "MIN"}, {"0", "99", "MAX", "99"}, {"0", "-99", "MIN", "-99"},
            {"-9", "99", "-11", "198"}, {"9", "-99", "11", "0"}, {"1", "0", "0", "0"}};
        for (String[] row : rows) {
            String set = "activity 3 5 " + row[0] + " = 1; activity 3 6 " + row[1] + " = 0;";
            Runs.check("its RESULT is input times factor plus summand, wrapping", set + "step 3 3 0 2 = 0; step 11 2 0 0 = 1; start 0 "
                + row[2] + " = WAITING; advance 1 = 1; result 0 = " + row[3] + "; variable 0 0 = " + row[2]);
            Runs.check("its RESULT .., wrapping, also by a handle", set + "step 4 3 0 2 = 0; step 5 2 0 0 = 1; step 11 0 0 0 = 2; start 0 "
                + row[2] + " = WAITING; advance 1 = 1; result 0 = " + row[3] + "; job 0 1 = " + row[2]);
        }
    }

    private static void jobNumbers() {
        Runs.check("Jobs are numbered 0, 1, .. in the order in which they are asked for", """
            jobs = 0; step 4 3 0 0 = 0; step 4 0 0 1 = 1; step 7 0 0 0 = 2; step 6 2 0 0 = 3; step 12 0 0 0 = 4
            start 2 2 = WAITING; start 0 1 = WAITING; jobs = 4; job 0 0 = 3; job 0 1 = 2; job 1 0 = 0; job 1 1 = 2
            job 2 0 = 3; job 2 1 = 1; job 3 0 = 0; job 3 1 = 1; advance 1 = 1; jobs = 5; job 4 0 = 2; job 4 1 = 1
            advance 1 = 2; jobs = 6; job 5 0 = 2; job 5 1 = 2; state 0 = UNDONE
            """);
    }

    private static void readyOrder() {
        Runs.check("that which was ready first begins first: a lesser number comes behind if it was ready later", """
            activity 0 0 2 = 1; activity 0 2 2 = 1; activity 0 3 1 = 0; activity 0 4 1 = 0; step 4 0 0 0 = 0; start 0 1 = DONE
            advance 1 = 1; start 1 1 = DONE; start 2 1 = DONE; advance 9 = 10; attempts = 5
            attempt 0 0 = 0; attempt 1 0 = 1; attempt 2 0 = 2; attempt 3 0 = 0; attempt 4 0 = 1
            """);
        Runs.check("that which was ready first begins first: a retry that is ready before a new job", """
            activity 0 0 3 = 1; activity 0 2 2 = 1; activity 0 3 1 = 0; activity 0 4 1 = 0; step 4 0 0 0 = 0; start 0 1 = DONE
            start 1 1 = DONE; advance 4 = 4; advance 1 = 5; start 2 1 = DONE; advance 4 = 9; attempts = 3; attempt 2 0 = 0
            """);
        Runs.check("of these that of the job with the lesser number: two asked for at once", """
            activity 0 0 2 = 1; step 4 0 0 0 = 0; step 4 0 0 1 = 1; start 1 1 = DONE; advance 4 = 4; attempt 0 0 = 0; attempt 1 0 = 1
            """);
        Runs.check("of these that of the job with the lesser number: a retry and a new job ready at one time", """
            activity 0 0 2 = 1; activity 0 2 2 = 1; activity 0 3 3 = 0; activity 0 4 1 = 0; activity 1 0 9 = 1
            step 7 0 0 0 = 0; step 4 0 0 0 = 1; start 0 0 = DONE; start 1 4 = WAITING; start 2 5 = WAITING
            advance 4 = 4; jobs = 2; load 0 = 1; advance 1 = 5; jobs = 3; load 0 = 3; advance 1 = 6; attempts = 2; attempt 1 0 = 1
            advance 2 = 8; attempts = 3; attempt 2 0 = 0; advance 2 = 10; attempts = 4; attempt 3 0 = 2
            """);
        Runs.check("Of several ready attempts of an activity: those of others do not wait behind them", """
            activity 0 0 9 = 1; step 4 0 0 0 = 0; step 4 0 0 1 = 1; step 4 1 0 2 = 2; start 0 1 = DONE; advance 1 = 1
            attempts = 1; attempt 0 0 = 2
            """);
    }

    private static void attemptsEnd() {
        Runs.check("first the attempts end that do, by rising numbers of their jobs: of two activities", """
            activity 0 0 3 = 1; activity 1 0 1 = 1; activity 2 0 2 = 1
            step 7 0 0 0 = 0; step 9 1 0 4 = 1; step 4 0 0 0 = 2; step 8 19 0 0 = 3; step 4 1 0 0 = 4
            start 0 2 = WAITING; start 1 0 = DONE; advance 3 = 3; attempts = 2; attempt 0 0 = 0; attempt 1 0 = 1
            attempt 0 1 = 3; attempt 1 1 = 3
            """);
        Runs.check("first the attempts end that do, by rising numbers: the later job began first", """
            activity 0 0 4 = 1; activity 1 0 8 = 1; step 4 0 0 0 = 0; step 4 0 0 1 = 1; step 4 1 0 2 = 2; start 0 1 = DONE
            advance 8 = 8; attempts = 3; attempt 0 0 = 0; attempt 1 0 = 1; attempt 2 0 = 2; attempt 1 1 = 8; attempt 2 1 = 8
            """);
        Runs.check("first the attempts end, then the workflows go on: both jobs are over when the first workflow goes on", """
            activity 0 1 2 = 1; step 4 0 0 0 = 0; step 4 0 0 1 = 1; step 5 1 2 0 = 2; step 5 0 3 0 = 3; start 0 6 = WAITING
            advance 1 = 1; state 0 = DONE; variable 0 2 = 6; variable 0 3 = 6
            """);
    }

    private static void workflowsGoOn() {
        Runs.check("then the workflows go on that can, by rising numbers, whichever started first", """
            step 7 0 0 0 = 0; step 4 0 0 0 = 1; start 2 3 = WAITING; advance 1 = 1; start 1 2 = WAITING; advance 1 = 2
            start 0 1 = WAITING; jobs = 0; advance 1 = 3; jobs = 3; job 0 1 = 1; job 1 1 = 2; job 2 1 = 3
            """);
        Runs.check("then the workflows go on that can, whichever's attempt ended first", """
            activity 0 1 3 = 1; step 3 0 0 1 = 0; step 3 1 1 2 = 1; start 1 8 = WAITING; start 0 7 = WAITING; advance 1 = 1
            jobs = 4; job 2 1 = 7; job 3 1 = 8; attempt 0 0 = 0; attempt 1 0 = 1
            """);
        Runs.check("a workflow that can't go on stays, though others go on", """
            step 7 0 0 0 = 0; step 10 0 1 9 = 1; start 0 1 = WAITING; start 1 2 = WAITING; advance 1 = 1; waitsAt 0 = 1; waitsAt 1 = 0
            """);
    }

    private static void attemptsBegin() {
        Runs.check("then ready attempts begin: the worker that became free takes what a workflow just asked for", """
            activity 0 0 9 = 1; step 3 0 0 0 = 0; step 3 0 0 0 = 1; start 0 1 = WAITING; advance 9 = 9; load 0 = 1
            advance 9 = 18; attempts = 2; attempt 1 1 = 18; state 0 = DONE
            """);
        Runs.check("then ready attempts begin: a job that a workflow just asked for stands behind one that was ready", """
            activity 0 0 2 = 1; step 3 0 0 0 = 0; step 3 0 0 0 = 1; start 0 1 = WAITING; start 2 2 = WAITING; advance 4 = 4
            attempt 0 0 = 0; attempt 1 0 = 1; jobs = 4; job 2 1 = 1; advance 4 = 8; attempt 2 0 = 2; attempt 3 0 = 3
            """);
    }

    private static void startAndSignal() {
        Runs.check("A start lets its workflow go on at once, and then ready attempts begin", """
            activity 0 0 3 = 1; step 0 1 5 0 = 0; step 3 0 1 2 = 1; advance 4 = 4; start 1 1 = WAITING; variable 1 1 = 5
            waitsAt 1 = 1; load 0 = 1; advance 2 = 6; attempts = 0; advance 1 = 7; attempts = 1
            """);
        Runs.check("a signal lets its workflow go on at once, and then ready attempts begin", """
            activity 0 0 3 = 1; step 10 1 1 9 = 0; step 3 0 1 2 = 1; start 1 1 = WAITING; start 2 1 = WAITING; advance 4 = 4
            signal 1 1 6 = WAITING; waitsAt 1 = 1; waitsAt 2 = 0; load 0 = 1; advance 2 = 6; attempts = 0; advance 1 = 7; attempts = 1
            """);
    }

    /** Every call with every one of these numbers, on objects in many states. */
    private static void noCallThrows() {
        int[] numbers = {Integer.MIN_VALUE, -100, -1, 0, 1, 2, 3, 4, 5, 6, 7, 12, 13, 19, 20, 50, 51, 89, 90, 100, 101,
            359, 360, Integer.MAX_VALUE};
        int ended = 0;
        for (int turn = 0; turn < 40; turn++) {
            SagaRuns runs = new SagaRuns();
            for (int k = 0; k < turn && k < 20; k++) {
                runs.step((turn + k * 7) % 13, k % 3, (k + turn) % 4, 1 + k % 2);
            }
            for (int x : numbers) {
                for (int y : numbers) {
                    for (int z : new int[] {Integer.MIN_VALUE, 0, 1, Integer.MAX_VALUE}) {
                        runs.activity(x, y, z);
                        runs.step(x, y, z, y);
                        runs.signal(x, y, z);
                    }
                    runs.start(x, y);
                    runs.variable(x, y);
                    runs.job(x, y);
                    runs.attempt(x, y);
                }
                callAll(runs, x);
            }
            runs.reset();
            runs.unstep();
            ended++;
        }
        Runs.due("No call ever throws", "objects that had every call", ended, 40);
    }

    private static void callAll(SagaRuns runs, int x) {
        runs.advance(x);
        runs.state(x);
        runs.result(x);
        runs.waitsAt(x);
        runs.pile(x);
        runs.load(x);
        runs.signals(x);
        runs.unstep();
        runs.crash();
        runs.time();
        runs.jobs();
        runs.attempts();
    }
}
