/** The steps, kind by kind, and how workflows wait, end and fail. */
public final class StepKindsTest {
    private StepKindsTest() {
    }

    public static void main(String[] args) {
        arithmetic();
        jumps();
        jobAndWait();
        handles();
        pauses();
        signalWaits();
        ends();
        takingBack();
        limits();
        Runs.end();
    }

    private static void arithmetic() {
        Runs.check("kind 0", """
            step 0 0 -99 0 = 0; step 0 3 99 0 = 1; start 0 5 = DONE
            variable 0 0 = -99; variable 0 1 = 0; variable 0 2 = 0; variable 0 3 = 99
            """);
        Runs.check("kinds 1 and 2", """
            step 0 1 7 0 = 0; step 1 2 0 0 = 1; step 1 2 1 0 = 2; step 2 3 2 0 = 3; step 1 1 1 0 = 4
            step 2 0 0 0 = 5; start 0 5 = DONE
            variable 0 0 = 0; variable 0 1 = 14; variable 0 2 = 12; variable 0 3 = -12
            """);
        Runs.check("kinds 1 and 2 wrap", """
            step 0 1 1 0 = 0; step 1 2 0 0 = 1; step 1 2 1 0 = 2; step 1 3 0 0 = 3; step 2 3 1 0 = 4
            start 0 MAX = DONE; variable 0 2 = MIN; variable 0 3 = 2147483646
            start 1 MIN = DONE; variable 1 2 = -2147483647; variable 1 3 = MAX
            """);
    }

    private static void jumps() {
        Runs.check("kind 8, forward, back and behind the last step", """
            step 8 2 0 0 = 0; step 11 0 0 0 = 1; step 8 1 0 0 = 2; start 0 6 = DONE; result 0 = 6
            reset; unstep = 2; unstep = 1; unstep = 0; step 8 1 0 0 = 0; start 0 6 = DONE; result 0 = 0
            reset; unstep = 0; step 8 19 0 0 = 0; start 0 6 = DONE; result 0 = 0; variable 0 0 = 6
            """);
        Runs.check("kind 9: only if less", """
            step 0 1 5 0 = 0; step 9 0 1 3 = 1; step 11 1 0 0 = 2; step 0 2 1 0 = 3; step 11 2 0 0 = 4
            start 0 4 = DONE; result 0 = 1; start 1 5 = DONE; result 1 = 5; start 2 6 = DONE; result 2 = 5
            reset; start 0 MIN = DONE; result 0 = 1; start 1 MAX = DONE; result 1 = 5
            """);
        Runs.check("kind 9: the difference may wrap, the comparison does not", """
            step 0 1 1 0 = 0; step 1 1 0 0 = 1; step 9 1 0 4 = 2; step 8 19 0 0 = 3; step 11 0 0 0 = 4
            start 0 MAX = DONE; result 0 = MAX; start 1 5 = DONE; result 1 = 0
            """);
        Runs.check("kind 9: to a step number that there is not", """
            step 9 1 0 19 = 0; step 11 0 0 0 = 1; start 0 4 = DONE; result 0 = 0; start 1 -4 = DONE; result 1 = -4
            """);
    }

    private static void jobAndWait() {
        Runs.check("kind 3: input, wait and result", """
            activity 2 0 4 = 1; activity 2 5 -3 = 1; activity 2 6 10 = 0
            step 0 1 6 0 = 0; step 3 2 1 3 = 1; step 11 3 0 0 = 2; start 0 9 = WAITING; waitsAt 0 = 1
            job 0 0 = 2; job 0 1 = 6; variable 0 3 = 0; advance 3 = 3; state 0 = WAITING; variable 0 3 = 0
            advance 1 = 4; state 0 = DONE; result 0 = -8; variable 0 1 = 6; variable 0 0 = 9
            """);
        Runs.check("kind 3: the result wraps", """
            activity 0 5 9 = 1; activity 0 6 99 = 0; step 3 0 0 0 = 0; step 11 0 0 0 = 1
            start 0 MAX = WAITING; start 1 MIN = WAITING; advance 2 = 2
            result 0 = -2147483558; result 1 = -2147483549
            """);
        Runs.check("kind 3: a failed job fails the workflow and leaves w", """
            activity 0 4 1 = 0; step 0 1 8 0 = 0; step 3 0 0 1 = 1; step 11 1 0 0 = 2; start 0 9 = WAITING
            advance 1 = 1; state 0 = UNDONE; result 0 = 0; variable 0 1 = 8; job 0 3 = 0; jobs = 1
            """);
        Runs.check("kind 3: retries are waited for", """
            activity 0 4 1 = 0; activity 0 2 2 = 1; activity 0 3 5 = 0; step 3 0 0 1 = 0; step 11 1 0 0 = 1
            start 0 9 = WAITING; advance 6 = 6; state 0 = WAITING; attempts = 1
            advance 1 = 7; state 0 = DONE; result 0 = 9; attempts = 2
            """);
    }

    private static void handles() {
        Runs.check("kinds 4 and 5: jobs go on while the workflow does other steps", """
            activity 0 0 5 = 1; activity 1 0 3 = 1; activity 1 5 2 = 1
            step 4 0 0 0 = 0; step 4 1 0 2 = 1; step 0 0 70 0 = 2; step 5 0 1 0 = 3; step 5 2 2 0 = 4
            step 1 1 2 0 = 5; step 11 1 0 0 = 6; start 0 4 = WAITING; jobs = 2; waitsAt 0 = 3
            load 0 = 1; load 1 = 1; advance 4 = 4; waitsAt 0 = 3; variable 0 2 = 0
            advance 1 = 5; state 0 = DONE; variable 0 2 = 8; result 0 = 12; variable 0 0 = 70
            """);
        Runs.check("kind 5: a job that is over is not waited for", """
            step 4 0 0 0 = 0; step 7 0 0 0 = 1; step 5 0 1 0 = 2; step 11 1 0 0 = 3
            start 0 3 = WAITING; advance 2 = 2; waitsAt 0 = 1; advance 1 = 3; state 0 = DONE; result 0 = 3
            """);
        Runs.check("kind 5: the handle is empty behind it, so it may be filled again", """
            step 4 0 0 0 = 0; step 5 0 1 0 = 1; step 4 0 1 0 = 2; step 5 0 2 0 = 3; step 5 0 3 0 = 4
            start 0 3 = WAITING; advance 1 = 1; jobs = 2; waitsAt 0 = 3; advance 1 = 2; state 0 = BROKEN
            variable 0 2 = 3; jobs = 2
            """);
        Runs.check("kind 5: BROKEN with an empty handle", """
            step 6 0 0 0 = 0; step 4 0 0 0 = 1; step 5 1 1 0 = 2; start 0 3 = BROKEN; pile 0 = 1; jobs = 1
            advance 5 = 5; jobs = 1; attempts = 1; state 0 = BROKEN
            """);
        Runs.check("kind 5: a failed job fails the workflow and leaves w", """
            activity 0 4 4 = 0; activity 0 2 4 = 1; step 0 1 8 0 = 0; step 4 0 0 0 = 1; step 5 0 1 0 = 2
            start 0 3 = WAITING; advance 3 = 3; state 0 = WAITING; advance 1 = 4; state 0 = UNDONE
            variable 0 1 = 8; attempts = 4; job 0 3 = 0
            """);
        Runs.check("jobs that nobody waits for go on all the same", """
            activity 0 0 9 = 1; activity 0 4 1 = 0; activity 0 2 2 = 1; activity 0 3 4 = 0
            step 4 0 0 0 = 0; step 12 0 0 0 = 1; start 0 3 = UNDONE; jobs = 1; load 0 = 1
            advance 9 = 9; attempts = 1; load 0 = 0; advance 4 = 13; load 0 = 1; advance 9 = 22
            attempts = 2; attempt 1 1 = 22; job 0 3 = 1; state 0 = UNDONE
            """);
    }

    private static void pauses() {
        Runs.check("kind 7: v's value in time", """
            step 7 0 0 0 = 0; step 11 0 0 0 = 1
            start 0 0 = DONE; start 1 -5 = DONE; start 2 1 = WAITING; advance 1 = 1; state 2 = DONE
            reset; start 0 50 = WAITING; start 1 51 = WAITING; start 2 MAX = WAITING; advance 49 = 49
            state 0 = WAITING; state 1 = WAITING; state 2 = WAITING; waitsAt 2 = 0; advance 1 = 50
            state 0 = DONE; state 1 = DONE; state 2 = DONE; result 2 = MAX
            reset; start 0 MIN = DONE; result 0 = MIN
            """);
        Runs.check("kind 7: from the time at which the step is done", """
            step 7 0 0 0 = 0; step 0 1 3 0 = 1; step 7 1 0 0 = 2; advance 10 = 10; start 0 4 = WAITING
            advance 3 = 13; waitsAt 0 = 0; advance 1 = 14; waitsAt 0 = 2; advance 2 = 16; waitsAt 0 = 2
            advance 1 = 17; state 0 = DONE
            """);
        Runs.check("kind 7: a signal does not end it", """
            step 7 0 0 0 = 0; start 0 4 = WAITING; signal 0 0 1 = WAITING; waitsAt 0 = 0
            advance 3 = 3; state 0 = WAITING; advance 1 = 4; state 0 = DONE
            """);
    }

    private static void signalWaits() {
        Runs.check("kind 10: a signal that has come", """
            step 7 0 0 0 = 0; step 10 1 1 50 = 1; step 10 0 2 50 = 2; step 10 1 3 50 = 3; step 11 3 0 0 = 4
            start 0 5 = WAITING; signal 0 1 21 = WAITING; signal 0 1 22 = WAITING; signal 0 0 23 = WAITING
            signals 0 = 3; advance 5 = 5; state 0 = DONE; variable 0 1 = 21; variable 0 2 = 23; result 0 = 22
            signals 0 = 0
            """);
        Runs.check("kind 10: waits until one comes", """
            step 10 1 1 9 = 0; step 11 1 0 0 = 1; start 0 5 = WAITING; waitsAt 0 = 0; variable 0 1 = 0
            advance 8 = 8; signal 0 0 5 = WAITING; waitsAt 0 = 0; signal 0 1 -77 = DONE; result 0 = -77; signals 0 = 1
            """);
        Runs.check("kind 10: not longer than d", """
            step 0 1 5 0 = 0; step 10 1 1 9 = 1; step 10 1 2 1 = 2; step 11 2 0 0 = 3; start 0 5 = WAITING
            start 1 5 = WAITING; advance 8 = 8; waitsAt 0 = 1; variable 0 1 = 5; advance 1 = 9; waitsAt 0 = 2
            variable 0 1 = -1; signal 0 1 44 = DONE; result 0 = 44; advance 1 = 10; state 1 = DONE; result 1 = -1
            """);
        Runs.check("kind 10: with 50 and from the time at which the step is done", """
            step 7 0 0 0 = 0; step 10 0 1 50 = 1; advance 3 = 3; start 0 4 = WAITING; advance 53 = 56
            waitsAt 0 = 1; advance 1 = 57; state 0 = DONE; variable 0 1 = -1
            """);
        Runs.check("kind 10: a signal with the number -1, and signals of other workflows", """
            step 10 0 1 9 = 0; step 11 1 0 0 = 1; start 0 0 = WAITING; start 1 0 = WAITING
            signal 1 0 -1 = DONE; result 1 = -1; state 0 = WAITING; signals 0 = 0; signals 1 = 0
            signal 0 0 MAX = DONE; result 0 = MAX
            """);
        Runs.check("kind 10: one signal for one step", """
            step 10 0 1 5 = 0; step 10 0 2 5 = 1; start 0 0 = WAITING; signal 0 0 3 = WAITING; waitsAt 0 = 1
            variable 0 1 = 3; variable 0 2 = 0; advance 5 = 5; state 0 = DONE; variable 0 2 = -1
            """);
    }

    private static void ends() {
        Runs.check("kind 11", """
            step 0 3 -9 0 = 0; step 11 3 0 0 = 1; step 12 0 0 0 = 2; start 0 1 = DONE; result 0 = -9; waitsAt 0 = NONE
            """);
        Runs.check("kind 12 with an empty pile", """
            step 12 0 0 0 = 0; step 11 0 0 0 = 1; start 0 1 = UNDONE; result 0 = 0; waitsAt 0 = NONE; jobs = 0
            """);
        Runs.check("behind the last step, and without any", """
            start 1 5 = DONE; result 1 = 0; reset; step 0 0 4 0 = 0; start 1 5 = DONE; result 1 = 0; variable 1 0 = 4
            """);
    }

    private static void takingBack() {
        Runs.check("the one put on last first, each when the one before is over", """
            activity 0 0 2 = 1; activity 1 0 3 = 1; activity 1 1 3 = 1
            step 6 0 0 0 = 0; step 0 0 7 0 = 1; step 6 1 0 0 = 2; step 0 0 8 0 = 3; step 6 1 0 0 = 4
            step 12 0 0 0 = 5; start 0 6 = WAITING; jobs = 1; job 0 0 = 1; job 0 1 = 8; pile 0 = 2
            advance 2 = 2; jobs = 1; advance 1 = 3; jobs = 2; job 1 0 = 1; job 1 1 = 7; pile 0 = 1
            advance 3 = 6; jobs = 3; job 2 0 = 0; job 2 1 = 6; pile 0 = 0; state 0 = WAITING; waitsAt 0 = 5
            advance 1 = 7; state 0 = WAITING; advance 1 = 8; state 0 = UNDONE; variable 0 0 = 8; attempts = 3
            """);
        Runs.check("STUCK if one fails behind its last try", """
            activity 1 4 2 = 0; activity 1 2 2 = 1; activity 1 3 1 = 0
            step 6 0 0 0 = 0; step 6 1 0 0 = 1; step 6 0 0 0 = 2; step 12 0 0 0 = 3; start 0 6 = WAITING
            advance 1 = 1; jobs = 2; pile 0 = 1; advance 1 = 2; state 0 = WAITING; advance 1 = 3; state 0 = WAITING
            advance 1 = 4; state 0 = STUCK; pile 0 = 1; jobs = 2; waitsAt 0 = NONE; result 0 = 0
            advance 9 = 13; state 0 = STUCK; jobs = 2
            """);
        Runs.check("a failed job of kind 3 takes back at the same time", """
            activity 1 4 1 = 0; step 6 0 0 0 = 0; step 3 1 0 1 = 1; step 6 0 0 0 = 2; start 0 6 = WAITING
            pile 0 = 1; advance 1 = 1; jobs = 2; job 1 0 = 0; pile 0 = 0; load 0 = 1; waitsAt 0 = 1
            advance 1 = 2; state 0 = UNDONE; attempts = 2
            """);
        Runs.check("what is on the pile of one that ends DONE is not asked for", """
            step 6 0 0 0 = 0; step 11 0 0 0 = 1; start 0 6 = DONE; advance 9 = 9; jobs = 0; pile 0 = 1
            """);
        Runs.check("the input is that of the time when it was put on", """
            step 6 3 0 0 = 0; step 0 0 -1 0 = 1; step 12 0 0 0 = 2; start 0 55 = WAITING; job 0 1 = 55; job 0 0 = 3
            """);
        Runs.check("kind 6 takes the variable that it names, of its own workflow", """
            step 0 1 41 0 = 0; step 0 2 42 0 = 1; step 0 3 43 0 = 2; step 1 2 0 0 = 3; step 6 2 2 0 = 4
            step 6 1 3 0 = 5; step 12 0 0 0 = 6; start 1 5 = WAITING; start 2 7 = WAITING; advance 1 = 1
            job 0 0 = 1; job 0 1 = 43; job 1 0 = 1; job 1 1 = 43; job 2 0 = 2; job 2 1 = 47
            advance 1 = 2; job 3 0 = 2; job 3 1 = 49; advance 1 = 3; state 1 = UNDONE; state 2 = UNDONE
            """);
        Runs.check("taking back takes no signals and no steps", """
            step 6 0 0 0 = 0; step 12 0 0 0 = 1; step 10 0 1 5 = 2; start 0 1 = WAITING; signal 0 0 1 = WAITING
            signals 0 = 1; advance 1 = 1; state 0 = UNDONE; signals 0 = 1; variable 0 1 = 0
            """);
    }

    private static void limits() {
        Runs.check("the 200th step is done, the 201st is not", """
            step 0 1 1 0 = 0; step 1 0 1 0 = 1; step 0 3 98 0 = 2; step 9 0 3 1 = 3
            step 11 0 0 0 = 4
            start 0 32 = DONE; result 0 = 98; start 1 31 = BROKEN; result 1 = 0; variable 1 0 = 98
            """);
        limitOfSteps();
        Runs.check("the 30th job is asked for, the 31st is not; taking back counts", """
            step 3 0 0 1 = 0; step 6 1 0 0 = 1; step 1 2 1 0 = 2; step 0 3 15 0 = 3; step 9 2 3 0 = 4; step 12 0 0 0 = 5
            start 0 1 = WAITING; advance 15 = 15; jobs = 16; pile 0 = 14; waitsAt 0 = 5
            advance 15 = 30; state 0 = UNDONE; jobs = 30; pile 0 = 0
            """);
        Runs.check("the 31st job in taking back: BROKEN, and it stays on the pile", """
            step 6 1 0 0 = 0; step 3 0 0 1 = 1; step 6 1 0 0 = 2; step 1 2 1 0 = 3; step 0 3 15 0 = 4; step 9 2 3 1 = 5
            step 12 0 0 0 = 6; start 0 1 = WAITING; advance 29 = 29; jobs = 30; state 0 = WAITING; pile 0 = 1
            advance 1 = 30; state 0 = BROKEN; jobs = 30; pile 0 = 1; waitsAt 0 = NONE
            """);
        Runs.check("the 31st job of kind 4", """
            step 4 0 0 0 = 0; step 5 0 1 0 = 1; step 8 0 0 0 = 2; start 0 1 = WAITING; start 1 1 = WAITING
            start 2 1 = WAITING; advance 100 = 100; jobs = 90; state 0 = BROKEN; state 1 = BROKEN; state 2 = BROKEN
            attempts = 90; attempt 89 1 = 90; job 89 2 = 1; job 90 0 = NONE; attempt 90 0 = NONE
            """);
        Runs.check("the most attempts there can be", """
            activity 0 2 4 = 1; activity 0 4 3 = 0; activity 0 1 3 = 1; step 3 0 0 1 = 0; step 8 0 0 0 = 1
            start 0 1 = WAITING; start 1 1 = WAITING; start 2 1 = WAITING; advance 100 = 100; advance 20 = 120
            jobs = 90; attempts = 360; attempt 359 0 = 89; attempt 359 1 = 120; state 2 = BROKEN; load 0 = 0
            """);
        Runs.check("a long pile", """
            step 6 0 0 0 = 0; step 6 0 0 0 = 1; step 6 0 0 0 = 2; step 6 0 0 0 = 3; step 6 0 0 0 = 4
            step 6 0 0 0 = 5; step 6 0 0 0 = 6; step 6 0 0 0 = 7; step 6 0 0 0 = 8; step 8 0 0 0 = 9
            start 0 1 = BROKEN; start 1 1 = BROKEN; start 2 1 = BROKEN; pile 0 = 180; pile 1 = 180; pile 2 = 180
            """);
    }

    /** n turns of two steps, so that the step that ends the workflow is one of those about the 200th. */
    private static void limitOfSteps() {
        for (int turns = 97; turns <= 100; turns++) {
            for (int more = 0; more < 3; more++) {
                SagaRuns runs = new SagaRuns();
                runs.step(0, 1, 1, 0);
                runs.step(1, 0, 1, 0);
                runs.step(9, 0, 2, 1);
                for (int n = 0; n < more; n++) {
                    runs.step(0, 3, n + 1, 0);
                }
                int steps = 1 + 2 * turns + more;
                String call = "start(0, " + -turns + ") with " + steps + " steps";
                Runs.due("behind the last step", call, runs.start(0, -turns), steps <= 200 ? SagaRuns.DONE : SagaRuns.BROKEN);
                runs.reset();
                runs.step(11, 1, 0, 0);
                call = "start(0, " + -turns + ") with " + (steps + 1) + " steps";
                Runs.due("a last step of kind 11", call, runs.start(0, -turns), steps < 200 ? SagaRuns.DONE : SagaRuns.BROKEN);
                Runs.due("a last step of kind 11", "result(0)", runs.result(0), steps < 200 ? 1 : 0);
            }
        }
    }
}
