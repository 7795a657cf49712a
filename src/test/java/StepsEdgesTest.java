/**
 * The boundary cases that the terms name of the program, its steps kind by kind, and how workflows
 * wait, end and fail. Each check bears the words of the document that it holds the class to.
 */
public final class StepsEdgesTest {
    private StepsEdgesTest() {
    }

    public static void main(String[] args) {
        program();
        fresh();
        setting();
        adding();
        subtracting();
        doing();
        asking();
        collecting();
        piling();
        pausing();
        jumping();
        jumpingIfLess();
        awaitingSignals();
        finishing();
        failing();
        behindTheLast();
        takingBack();
        broken();
        stepLimit();
        stepLimitOfWaits();
        stepLimitAndFailing();
        jobLimit();
        jobLimitOfThePile();
        nobodyWaits();
        Runs.end();
    }

    private static void program() {
        Runs.check("a list of at most 20 STEPS: none", "start 0 MAX = DONE; result 0 = 0; variable 0 0 = MAX");
        Runs.check("a list of at most 20 STEPS: one", "step 11 0 0 0 = 0; start 0 MAX = DONE; result 0 = MAX");
        String twenty = "step 0 1 1 0 = 0;";
        for (int k = 1; k < 19; k++) {
            twenty += "step 1 2 1 0 = " + k + ";";
        }
        Runs.check("a list of at most 20 STEPS: all 20 are done", twenty + "step 11 2 0 0 = 19; start 0 5 = DONE; result 0 = 18");
        Runs.check("a list of at most 20 STEPS: the last waits", twenty + """
            step 7 1 0 0 = 19; start 0 5 = WAITING; waitsAt 0 = 19; advance 1 = 1; state 0 = DONE; result 0 = 0
            """);
        Runs.check("a list of at most 20 STEPS: the last fails", twenty + "step 12 0 0 0 = 19; start 0 5 = UNDONE; variable 0 2 = 18");
        Runs.check("three WORKFLOWS, 0 to 2, that all have it", """
            step 1 1 0 0 = 0; step 11 1 0 0 = 1; start 0 4 = DONE; start 1 5 = DONE; start 2 6 = DONE
            result 0 = 4; result 1 = 5; result 2 = 6
            """);
    }

    private static void fresh() {
        Runs.check("four variables 0 to 3, ints (x, 0, 0, 0 at first)", """
            step 7 0 0 0 = 0; start 0 MAX = WAITING; start 1 MIN = DONE; variable 0 0 = MAX; variable 0 1 = 0; variable 0 2 = 0
            variable 0 3 = 0; variable 1 0 = MIN; variable 1 1 = 0; variable 1 2 = 0; variable 1 3 = 0
            """);
        for (int h = 0; h < 3; h++) {
            Runs.check("three HANDLES 0 to 2 (empty at first)", "step 5 * 0 0 = 0; start 0 1 = BROKEN; start 1 1 = BROKEN".replace("*", "" + h));
            Runs.check("three HANDLES 0 to 2, each with its own job", """
                step 4 0 0 * = 0; step 5 * 1 0 = 1; step 11 1 0 0 = 2; start 0 5 = WAITING; start 1 6 = WAITING; advance 2 = 2
                result 0 = 5; result 1 = 6
                """.replace("*", "" + h));
        }
        Runs.check("a PILE of jobs: empty at first", "step 12 0 0 0 = 0; start 0 1 = UNDONE; pile 0 = 0; jobs = 0");
    }

    private static void setting() {
        for (int k : new int[] {-99, -1, 0, 1, 99}) {
            Runs.check("0 v k: v becomes k", "step 0 3 * 0 = 0; step 0 0 * 0 = 1; start 0 MIN = DONE; variable 0 3 = *; variable 0 0 = *"
                .replace("*", "" + k) + "; variable 0 1 = 0; variable 0 2 = 0");
        }
    }

    private static void adding() {
        Runs.check("1 v w: v becomes v plus w, wrapping upwards", """
            step 0 1 99 0 = 0; step 1 0 1 0 = 1; start 0 MAX = DONE; variable 0 0 = -2147483550; variable 0 1 = 99
            start 1 2147483548 = DONE; variable 1 0 = MAX; start 2 2147483549 = DONE; variable 2 0 = MIN
            """);
        Runs.check("1 v w: v becomes v plus w, wrapping downwards", """
            step 0 1 -99 0 = 0; step 1 0 1 0 = 1; start 0 MIN = DONE; variable 0 0 = 2147483549
            start 1 -2147483549 = DONE; variable 1 0 = MIN; start 2 -2147483550 = DONE; variable 2 0 = MAX
            """);
        Runs.check("1 v w: v may be w", """
            step 1 0 0 0 = 0; start 0 MIN = DONE; variable 0 0 = 0; start 1 MAX = DONE; variable 1 0 = -2
            start 2 1073741824 = DONE; variable 2 0 = MIN
            """);
    }

    private static void subtracting() {
        Runs.check("2 v w: v becomes v less w, wrapping downwards", """
            step 0 1 99 0 = 0; step 2 0 1 0 = 1; start 0 MIN = DONE; variable 0 0 = 2147483549; variable 0 1 = 99
            start 1 -2147483549 = DONE; variable 1 0 = MIN; start 2 -2147483550 = DONE; variable 2 0 = MAX
            """);
        Runs.check("2 v w: v becomes v less w, wrapping upwards", """
            step 0 1 -99 0 = 0; step 2 0 1 0 = 1; start 0 MAX = DONE; variable 0 0 = -2147483550
            start 1 2147483548 = DONE; variable 1 0 = MAX; start 2 2147483549 = DONE; variable 2 0 = MIN
            """);
        Runs.check("2 v w: of 0, so that the least int stays", """
            step 2 1 0 0 = 0; start 0 MIN = DONE; variable 0 1 = MIN; start 1 MAX = DONE; variable 1 1 = -2147483647
            """);
        Runs.check("2 v w: v may be w", "step 2 0 0 0 = 0; start 0 MIN = DONE; variable 0 0 = 0; start 1 7 = DONE; variable 1 0 = 0");
    }

    private static void doing() {
        Runs.check("3 a v w: w may be v", "activity 0 5 9 = 1; step 3 0 0 0 = 0; start 0 3 = WAITING; variable 0 0 = 3; advance 1 = 1; variable 0 0 = 27");
        Runs.check("3 a v w: the least and the greatest input", """
            step 3 3 0 3 = 0; start 0 MIN = WAITING; start 1 MAX = WAITING; job 0 1 = MIN; job 1 1 = MAX; advance 2 = 2
            variable 0 3 = MIN; variable 1 3 = MAX
            """);
        Runs.check("3 a v w: if it failed the workflow fails, at the first of 1 try", """
            activity 0 4 1 = 0; step 3 0 0 1 = 0; step 11 0 0 0 = 1; start 0 3 = WAITING; advance 1 = 1; state 0 = UNDONE; variable 0 1 = 0
            """);
        Runs.check("3 a v w: if it failed the workflow fails, at the last of 4 tries", """
            activity 0 4 4 = 0; activity 0 2 4 = 1; step 3 0 0 1 = 0; step 11 0 0 0 = 1; start 0 3 = WAITING; advance 3 = 3
            state 0 = WAITING; advance 1 = 4; state 0 = UNDONE
            """);
        Runs.check("3 a v w: not if the last of its tries succeeded", """
            activity 0 4 3 = 0; activity 0 2 4 = 1; step 3 0 0 1 = 0; step 11 1 0 0 = 1; start 0 3 = WAITING; advance 3 = 3
            state 0 = WAITING; advance 1 = 4; state 0 = DONE; result 0 = 3
            """);
    }

    private static void asking() {
        for (int h = 0; h < 3; h++) {
            Runs.check("4 a v h: BROKEN if it had one", """
                step 4 0 0 * = 0; step 4 0 0 * = 1; step 11 0 0 0 = 2; start 0 3 = BROKEN; jobs = 1; load 0 = 1; result 0 = 0
                """.replace("*", "" + h));
        }
        Runs.check("4 a v h: BROKEN if it had one, even one that is over, of another activity", """
            step 4 0 0 1 = 0; step 7 0 0 0 = 1; step 4 3 0 1 = 2; start 0 3 = WAITING; advance 3 = 3; job 0 3 = 1
            state 0 = BROKEN; jobs = 1
            """);
        Runs.check("4 a v h: BROKEN if it had one, even one that failed", """
            activity 0 4 4 = 0; step 4 0 0 1 = 0; step 7 0 0 0 = 1; step 4 3 0 1 = 2; start 0 3 = WAITING; advance 3 = 3
            job 0 3 = 0; state 0 = BROKEN; jobs = 1
            """);
        Runs.check("4 a v h: not BROKEN if another handle had one, and behind 5 not if this one had", """
            step 4 0 0 0 = 0; step 4 0 0 1 = 1; step 4 0 0 2 = 2; step 5 1 1 0 = 3; step 4 0 0 1 = 4; step 7 0 0 0 = 5
            start 0 3 = WAITING; jobs = 3; advance 2 = 2; jobs = 4; waitsAt 0 = 5
            """);
        Runs.check("4 a v h: does not wait", "activity 0 0 9 = 1; step 4 0 0 0 = 0; start 0 3 = DONE; jobs = 1; load 0 = 1");
    }

    private static void collecting() {
        Runs.check("5 h w: BROKEN if handle h is empty, though others are not", """
            step 4 0 0 0 = 0; step 4 0 0 2 = 1; step 5 1 0 0 = 2; start 0 1 = BROKEN; jobs = 2
            """);
        Runs.check("5 h w: BROKEN if handle h is empty again", """
            step 4 0 0 0 = 0; step 5 0 1 0 = 1; step 5 0 2 0 = 2; start 0 7 = WAITING; advance 1 = 1; state 0 = BROKEN; variable 0 1 = 7; variable 0 2 = 0
            """);
        Runs.check("5 h w: waits until its job is over, to the point of time", """
            activity 0 0 9 = 1; step 4 0 0 2 = 0; step 0 0 0 0 = 1; step 5 2 0 0 = 2; step 11 0 0 0 = 3; start 0 7 = WAITING; waitsAt 0 = 2
            advance 8 = 8; state 0 = WAITING; variable 0 0 = 0; advance 1 = 9; state 0 = DONE; result 0 = 7
            """);
        Runs.check("5 h w: a job that is over just now, or was before, is not waited for", """
            step 4 0 0 0 = 0; step 7 0 0 0 = 1; step 5 0 1 0 = 2; step 11 1 0 0 = 3; start 0 1 = WAITING; advance 1 = 1; state 0 = DONE
            result 0 = 1; start 1 9 = WAITING; advance 9 = 10; state 1 = DONE; result 1 = 9
            """);
        Runs.check("5 h w: if it failed the workflow fails, and had it failed long ago", """
            activity 0 4 1 = 0; step 4 0 0 0 = 0; step 7 0 0 0 = 1; step 5 0 1 0 = 2; step 11 0 0 0 = 3; start 0 1 = WAITING; advance 1 = 1
            state 0 = UNDONE; variable 0 1 = 0; start 1 9 = WAITING; advance 8 = 9; state 1 = WAITING; advance 1 = 10; state 1 = UNDONE
            """);
    }

    private static void piling() {
        Runs.check("6 a v: the job is put on the pile, and not asked for", "step 6 3 0 0 = 0; start 0 MIN = DONE; pile 0 = 1; jobs = 0; load 3 = 0");
        Runs.check("6 a v: with v's value, the least and the greatest", """
            step 6 3 0 0 = 0; step 0 0 0 0 = 1; step 12 0 0 0 = 2; start 0 MIN = WAITING; start 1 MAX = WAITING
            job 0 0 = 3; job 0 1 = MIN; job 1 1 = MAX
            """);
        Runs.check("6 a v: as often as there are steps", """
            step 6 0 0 0 = 0; step 8 0 0 0 = 1; start 2 1 = BROKEN; pile 2 = 100; pile 1 = 0; start 0 1 = BROKEN; pile 0 = 100; jobs = 0
            """);
    }

    private static void pausing() {
        String run = "step 7 0 0 0 = 0; step 11 0 0 0 = 1;";
        for (String x : new String[] {"MIN", "-51", "-50", "-1", "0"}) {
            Runs.check("7 v: not less than 0 (with 0 it goes on at once)", run + "start 0 " + x + " = DONE; result 0 = " + x + "; time = 0");
        }
        for (int x : new int[] {1, 2, 49, 50}) {
            Runs.check("7 v: waits for v's value in time", run + "start 0 " + x + " = WAITING; advance " + (x - 1) + " = " + (x - 1)
                + "; state 0 = WAITING; waitsAt 0 = 0; advance 1 = " + x + "; state 0 = DONE; result 0 = " + x);
        }
        for (String x : new String[] {"51", "52", "100", "MAX"}) {
            Runs.check("7 v: nor more than 50", run + "start 0 " + x + " = WAITING; advance 49 = 49; state 0 = WAITING; advance 1 = 50; state 0 = DONE; result 0 = " + x);
        }
        Runs.check("7 v: from when it begins to wait, not from 0", run + "advance 100 = 100; start 0 2 = WAITING; advance 1 = 101; state 0 = WAITING; advance 1 = 102; state 0 = DONE");
        Runs.check("7 v: two behind each other", """
            step 7 0 0 0 = 0; step 7 0 0 0 = 1; start 0 50 = WAITING; advance 50 = 50; waitsAt 0 = 1; advance 49 = 99; waitsAt 0 = 1
            advance 1 = 100; state 0 = DONE
            """);
    }

    private static void jumping() {
        Runs.check("8 k: to itself, so that it never waits or ends", "step 8 0 0 0 = 0; start 0 1 = BROKEN; result 0 = 0");
        Runs.check("8 k: to the step behind it", "step 8 1 0 0 = 0; step 11 0 0 0 = 1; start 0 6 = DONE; result 0 = 6");
        Runs.check("8 k: to the last step that there is, and to the first that there is not", """
            step 8 2 0 0 = 0; step 12 0 0 0 = 1; step 11 0 0 0 = 2; start 0 6 = DONE; result 0 = 6
            reset; unstep = 2; start 0 6 = DONE; result 0 = 0
            """);
        Runs.check("8 k: with a step number that there is not, the greatest", "step 8 19 0 0 = 0; step 12 0 0 0 = 1; start 0 6 = DONE; result 0 = 0");
        String twenty = "step 8 19 0 0 = 0;";
        for (int k = 1; k < 19; k++) {
            twenty += "step 12 0 0 0 = " + k + ";";
        }
        Runs.check("8 k: to the 20th step", twenty + "step 11 0 0 0 = 19; start 0 6 = DONE; result 0 = 6");
        Runs.check("8 k: to step 0", "step 9 0 1 2 = 0; step 11 0 0 0 = 1; step 0 0 7 0 = 2; step 8 0 0 0 = 3; start 0 -6 = DONE; result 0 = 7");
    }

    private static void jumpingIfLess() {
        String[][] rows = {
            {"0", "0", "no"}, {"-1", "0", "yes"}, {"1", "0", "no"}, {"MIN", "0", "yes"}, {"MAX", "0", "no"},
            {"98", "99", "yes"}, {"99", "99", "no"}, {"100", "99", "no"}, {"MIN", "99", "yes"}, {"MAX", "-99", "no"},
            {"-100", "-99", "yes"}, {"-99", "-99", "no"}, {"-98", "-99", "no"}, {"MIN", "-99", "yes"}};
        for (String[] row : rows) {
            Runs.check("9 v w k: goes on with step k if v is less than w", "step 0 1 " + row[1] + " 0 = 0; step 9 0 1 3 = 1; step 12 0 0 0 = 2;"
                + "step 11 0 0 0 = 3; start 0 " + row[0] + " = " + (row[2].equals("yes") ? "DONE; result 0 = " + row[0] : "UNDONE"));
        }
        Runs.check("9 v w k: the least int is less than the greatest, and not the other way", """
            step 0 1 1 0 = 0; step 1 2 0 0 = 1; step 1 2 1 0 = 2; step 9 2 0 5 = 3; step 12 0 0 0 = 4; step 9 0 2 4 = 5
            start 0 MAX = DONE; variable 0 2 = MIN
            """);
        Runs.check("9 v w k: a variable is not less than itself", "step 9 0 0 2 = 0; step 11 0 0 0 = 1; step 12 0 0 0 = 2; start 0 MIN = DONE; result 0 = MIN");
        Runs.check("9 v w k: to itself for ever", "step 9 0 1 0 = 0; start 0 -1 = BROKEN; start 1 0 = DONE");
        Runs.check("9 v w k: with a step number that there is not", "step 9 0 1 19 = 0; step 12 0 0 0 = 1; start 0 -1 = DONE; result 0 = 0; start 1 0 = UNDONE");
    }

    private static void awaitingSignals() {
        Runs.check("10 s w d: if a signal s has come that no step took yet, the number of the one that came first", """
            step 7 0 0 0 = 0; step 10 1 1 1 = 1; step 10 1 2 1 = 2; step 10 1 3 1 = 3; start 0 1 = WAITING
            signal 0 0 1 = WAITING; signal 0 1 MIN = WAITING; signal 0 1 MAX = WAITING; advance 1 = 1
            waitsAt 0 = 3; variable 0 1 = MIN; variable 0 2 = MAX; variable 0 3 = 0; signals 0 = 1
            advance 1 = 2; state 0 = DONE; variable 0 3 = -1; signals 0 = 1
            """);
        Runs.check("10 s w d: the other signal does not do, either way", """
            step 10 0 1 5 = 0; step 10 1 2 5 = 1; start 0 1 = WAITING; signal 0 1 3 = WAITING; waitsAt 0 = 0; signals 0 = 1
            signal 0 0 4 = DONE; variable 0 1 = 4; variable 0 2 = 3; signals 0 = 0
            """);
        for (int d : new int[] {1, 2, 49, 50}) {
            String run = "step 10 0 1 " + d + " = 0; step 11 1 0 0 = 1; advance 3 = 3; start 0 9 = WAITING; advance " + (d - 1) + " = " + (d + 2) + ";";
            Runs.check("10 s w d: but not longer than d; if none came in that time w becomes -1", run + "state 0 = WAITING; variable 0 1 = 0; advance 1 = "
                + (d + 3) + "; state 0 = DONE; result 0 = -1; signal 0 0 7 = NONE");
            Runs.check("10 s w d: else it waits until one comes, at the last time that it can", run + "signal 0 1 6 = WAITING; signal 0 0 7 = DONE; result 0 = 7");
        }
        Runs.check("10 s w d: none came in that time, so the next step takes the one that comes then", """
            step 10 0 1 2 = 0; step 10 0 2 2 = 1; start 0 9 = WAITING; advance 2 = 2; variable 0 1 = -1; waitsAt 0 = 1
            signal 0 0 8 = DONE; variable 0 1 = -1; variable 0 2 = 8
            """);
        Runs.check("10 s w d: with a signal there it does not wait", """
            step 7 0 0 0 = 0; step 10 0 1 50 = 1; step 11 1 0 0 = 2; start 0 2 = WAITING; signal 0 0 -1 = WAITING; advance 2 = 2
            state 0 = DONE; result 0 = -1; signals 0 = 0
            """);
    }

    private static void finishing() {
        Runs.check("11 v: the workflow ends DONE with v's value", """
            step 11 0 0 0 = 0; step 12 0 0 0 = 1; start 0 MIN = DONE; start 1 MAX = DONE; start 2 0 = DONE
            result 0 = MIN; result 1 = MAX; result 2 = 0
            """);
    }

    private static void failing() {
        Runs.check("12: the workflow fails, with nothing to take back", "step 12 0 0 0 = 0; step 11 0 0 0 = 1; start 0 5 = UNDONE; result 0 = 0; waitsAt 0 = NONE");
        Runs.check("12: the workflow fails, with one job to take back", """
            step 6 0 0 0 = 0; step 12 0 0 0 = 1; step 11 0 0 0 = 2; start 0 5 = WAITING; pile 0 = 0; jobs = 1; waitsAt 0 = 1
            advance 1 = 1; state 0 = UNDONE; result 0 = 0
            """);
    }

    private static void behindTheLast() {
        Runs.check("Behind the last step the workflow ends DONE with 0", "step 0 0 7 0 = 0; start 0 5 = DONE; result 0 = 0; variable 0 0 = 7");
        Runs.check("Behind the last step, one that waits", "step 7 0 0 0 = 0; start 0 5 = WAITING; advance 5 = 5; state 0 = DONE; result 0 = 0");
        Runs.check("Behind the last step, one that does not jump", "step 9 0 1 0 = 0; start 0 5 = DONE; result 0 = 0");
        Runs.check("with a step number that there is not", "step 8 1 0 0 = 0; start 0 5 = DONE; result 0 = 0; waitsAt 0 = NONE");
    }

    private static void takingBack() {
        Runs.check("asks for the jobs on its pile, the one put on last first, each one when the one before is over", """
            activity 0 0 9 = 1; activity 1 2 2 = 1; activity 1 4 1 = 0; activity 1 3 9 = 0
            step 6 0 0 0 = 0; step 6 1 0 0 = 1; step 6 2 0 0 = 2; step 12 0 0 0 = 3; start 0 5 = WAITING; jobs = 1; job 0 0 = 2; pile 0 = 2
            advance 1 = 1; jobs = 2; job 1 0 = 1; pile 0 = 1; advance 10 = 11; jobs = 2; advance 1 = 12; jobs = 3; job 2 0 = 0; pile 0 = 0
            advance 8 = 20; state 0 = WAITING; advance 1 = 21; state 0 = UNDONE
            """);
        Runs.check("if one fails it ends STUCK: the first asked for", """
            activity 1 4 1 = 0; step 6 0 0 0 = 0; step 6 1 0 0 = 1; step 12 0 0 0 = 2; start 0 5 = WAITING; advance 1 = 1
            state 0 = STUCK; pile 0 = 1; jobs = 1; waitsAt 0 = NONE; advance 9 = 10; jobs = 1
            """);
        Runs.check("if one fails it ends STUCK: the last", """
            activity 1 4 1 = 0; step 6 1 0 0 = 0; step 6 0 0 0 = 1; step 12 0 0 0 = 2; start 0 5 = WAITING; advance 1 = 1
            state 0 = WAITING; pile 0 = 0; advance 1 = 2; state 0 = STUCK; pile 0 = 0; jobs = 2; result 0 = 0
            """);
        Runs.check("if one fails it ends STUCK: the only one", """
            activity 1 4 4 = 0; activity 1 2 4 = 1; step 6 1 0 0 = 0; step 12 0 0 0 = 1; start 0 5 = WAITING; advance 3 = 3
            state 0 = WAITING; advance 1 = 4; state 0 = STUCK
            """);
        Runs.check("if none fails behind its last try it is not STUCK", """
            activity 1 4 3 = 0; activity 1 2 4 = 1; step 6 1 0 0 = 0; step 12 0 0 0 = 1; start 0 5 = WAITING; advance 3 = 3
            state 0 = WAITING; advance 1 = 4; state 0 = UNDONE
            """);
        Runs.check("behind the last it ends UNDONE, at once with an empty pile, also by a job that failed", """
            activity 1 4 1 = 0; step 3 1 0 1 = 0; step 6 0 0 0 = 1; start 0 5 = WAITING; advance 1 = 1; state 0 = UNDONE; jobs = 1
            """);
    }

    private static void broken() {
        Runs.check("BROKEN ends it too, and takes nothing back", """
            step 6 0 0 0 = 0; step 5 0 0 0 = 1; start 0 5 = BROKEN; pile 0 = 1; jobs = 0; waitsAt 0 = NONE; result 0 = 0
            signal 0 0 1 = NONE; start 0 1 = BUSY; advance 50 = 50; state 0 = BROKEN; jobs = 0
            """);
    }

    /** Steps that count v0 up from x to 0, two a turn, behind one step and before those of the tail. */
    private static String counting(String tail) {
        return "step 0 1 1 0 = 0; step 1 0 1 0 = 1; step 9 0 2 1 = 2;" + tail;
    }

    private static void stepLimit() {
        // 1 + 2 * 99 = 199 steps, and then the tail.
        Runs.check("would do its 201st step: the 200th is done", counting("step 11 1 0 0 = 3; start 0 -99 = DONE; result 0 = 1"));
        Runs.check("would do its 201st step: it ends BROKEN instead", counting("step 0 3 7 0 = 3; step 11 1 0 0 = 4;")
            + "start 0 -99 = BROKEN; result 0 = 0; variable 0 3 = 7; waitsAt 0 = NONE; start 1 -98 = DONE");
        Runs.check("would do its 201st step: behind the last step there is none", counting("step 0 3 7 0 = 3; start 0 -99 = DONE; variable 0 3 = 7"));
        Runs.check("would do its 201st step: with a step number that there is not there is none", counting("step 8 19 0 0 = 3; start 0 -99 = DONE"));
        Runs.check("would do its 201st step: it asks for no job then", counting("step 0 3 7 0 = 3; step 4 0 0 0 = 4;")
            + "start 0 -99 = BROKEN; jobs = 0; start 1 -98 = DONE; jobs = 1");
        Runs.check("would do its 201st step: each workflow has its own 200", """
            step 0 1 1 0 = 0; step 1 0 1 0 = 1; step 8 1 0 0 = 2; start 0 0 = BROKEN; start 1 0 = BROKEN; start 2 0 = BROKEN
            variable 0 0 = 100; variable 1 0 = 100; variable 2 0 = 100
            """);
    }

    private static void stepLimitOfWaits() {
        Runs.check("would do its 201st step: a wait for time is one step", """
            step 7 0 0 0 = 0; step 8 0 0 0 = 1; start 0 1 = WAITING; advance 99 = 99; state 0 = WAITING; waitsAt 0 = 0
            advance 1 = 100; state 0 = BROKEN; waitsAt 0 = NONE
            """);
        Runs.check("would do its 201st step: a wait for a signal is one step", """
            step 10 0 1 1 = 0; step 8 0 0 0 = 1; start 0 1 = WAITING; advance 99 = 99; state 0 = WAITING; waitsAt 0 = 0
            advance 1 = 100; state 0 = BROKEN; variable 0 1 = -1
            """);
        Runs.check("would do its 201st step: a wait for a job is one step", counting("""
            step 3 0 1 3 = 3; step 11 3 0 0 = 4; start 0 -99 = WAITING; waitsAt 0 = 3; start 1 -98 = WAITING; advance 1 = 1
            state 0 = BROKEN; variable 0 3 = 1; advance 1 = 2; state 1 = DONE; result 1 = 1
            """));
        Runs.check("would do its 201st step: a wait for a handle's job is one step", """
            step 4 0 0 1 = 0; step 0 1 1 0 = 1; step 1 0 1 0 = 2; step 9 0 2 2 = 3; step 5 1 3 0 = 4; step 11 3 0 0 = 5
            start 0 -98 = WAITING; waitsAt 0 = 4; start 1 -99 = BROKEN; advance 1 = 1; state 0 = DONE; result 0 = -98
            """);
        Runs.check("would do its 201st step: a wait of no time is one step", "step 7 0 0 0 = 0; step 6 0 0 0 = 1; step 8 0 0 0 = 2; start 0 0 = BROKEN; pile 0 = 67");
    }

    private static void stepLimitAndFailing() {
        // 1 + 1 + 2 * 98 + 1 = 199 steps, and then the tail.
        String piled = "step 6 0 0 0 = 0; step 0 1 1 0 = 1; step 1 0 1 0 = 2; step 9 0 2 2 = 3; step 0 3 1 0 = 4;";
        Runs.check("would do its 201st step: the 200th fails, and taking back is no step", piled + """
            step 12 0 0 0 = 5; start 0 -98 = WAITING; waitsAt 0 = 5; jobs = 1; advance 1 = 1; state 0 = UNDONE
            """);
        Runs.check("would do its 201st step: one that would fail ends BROKEN, and takes nothing back", piled + """
            step 0 3 2 0 = 5; step 12 0 0 0 = 6; start 0 -98 = BROKEN; variable 0 3 = 2; pile 0 = 1; jobs = 0
            """);
    }

    private static void jobLimit() {
        Runs.check("ask for its 31st job: by kind 3", """
            step 3 0 0 1 = 0; step 8 0 0 0 = 1; start 0 1 = WAITING; advance 28 = 28; jobs = 29; advance 1 = 29; jobs = 30
            state 0 = WAITING; advance 1 = 30; jobs = 30; state 0 = BROKEN; attempts = 30; load 0 = 0; waitsAt 0 = NONE
            """);
        Runs.check("ask for its 31st job: by kind 4", """
            step 4 0 0 2 = 0; step 5 2 1 0 = 1; step 8 0 0 0 = 2; start 0 1 = WAITING; advance 29 = 29; jobs = 30
            state 0 = WAITING; advance 1 = 30; jobs = 30; state 0 = BROKEN; attempts = 30; load 0 = 0
            """);
        Runs.check("ask for its 31st job: the 30th may be the last", """
            step 3 0 0 1 = 0; step 1 2 1 0 = 1; step 0 3 30 0 = 2; step 9 2 3 0 = 3; step 11 2 0 0 = 4; start 0 1 = WAITING
            advance 29 = 29; state 0 = WAITING; advance 1 = 30; state 0 = DONE; result 0 = 30; jobs = 30
            """);
        Runs.check("ask for its 31st job: each workflow has its own 30", """
            activity 0 1 3 = 1; step 3 0 0 1 = 0; step 8 0 0 0 = 1; start 0 1 = WAITING; advance 30 = 30; state 0 = BROKEN
            start 1 1 = WAITING; start 2 1 = WAITING; advance 29 = 59; jobs = 90; state 1 = WAITING; state 2 = WAITING
            advance 1 = 60; jobs = 90; state 1 = BROKEN; state 2 = BROKEN; attempts = 90; job 89 3 = 1; job 90 3 = NONE
            """);
        Runs.check("ask for its 31st job: attempts do not count", """
            activity 0 2 4 = 1; activity 0 4 3 = 0; step 3 0 0 1 = 0; step 8 0 0 0 = 1; start 0 1 = WAITING; advance 100 = 100
            state 0 = WAITING; jobs = 26; attempts = 100; advance 20 = 120; jobs = 30; attempts = 120; state 0 = BROKEN
            """);
    }

    private static void jobLimitOfThePile() {
        Runs.check("ask for its 31st job: 30 jobs of the pile are taken back", """
            step 0 2 30 0 = 0; step 6 0 0 0 = 1; step 1 1 0 0 = 2; step 9 1 2 1 = 3; step 12 0 0 0 = 4
            start 0 1 = WAITING; pile 0 = 29; jobs = 1; advance 29 = 29; pile 0 = 0; jobs = 30; state 0 = WAITING
            advance 1 = 30; state 0 = UNDONE; jobs = 30
            """);
        Runs.check("ask for its 31st job: the 31st of the pile is not", """
            step 0 2 31 0 = 0; step 6 0 0 0 = 1; step 1 1 0 0 = 2; step 9 1 2 1 = 3; step 12 0 0 0 = 4
            start 0 1 = WAITING; pile 0 = 30; jobs = 1; advance 29 = 29; pile 0 = 1; jobs = 30; state 0 = WAITING
            waitsAt 0 = 4; advance 1 = 30; state 0 = BROKEN; jobs = 30; pile 0 = 1; waitsAt 0 = NONE
            """);
        Runs.check("ask for its 31st job: none of the pile behind 30 others", """
            step 6 1 0 0 = 0; step 3 0 0 1 = 1; step 1 2 1 0 = 2; step 0 3 30 0 = 3; step 9 2 3 1 = 4; step 12 0 0 0 = 5
            start 0 1 = WAITING; advance 30 = 30; state 0 = BROKEN; jobs = 30; pile 0 = 1
            """);
        Runs.check("ask for its 31st job: the 30th fails, so it is STUCK", """
            activity 0 4 1 = 0; step 0 2 30 0 = 0; step 6 0 0 0 = 1; step 1 1 0 0 = 2; step 6 1 0 0 = 3; step 1 1 0 0 = 4
            step 9 1 2 3 = 5; step 12 0 0 0 = 6; start 0 1 = WAITING; pile 0 = 29; advance 29 = 29; jobs = 30; pile 0 = 0
            state 0 = WAITING; advance 1 = 30; state 0 = STUCK; jobs = 30
            """);
        Runs.check("ask for its 31st job: what is on the pile was not asked for", """
            step 0 2 31 0 = 0; step 6 0 0 0 = 1; step 1 1 0 0 = 2; step 9 1 2 1 = 3; step 3 0 0 3 = 4; start 0 1 = WAITING
            pile 0 = 31; jobs = 1; advance 1 = 1; state 0 = DONE; pile 0 = 31; jobs = 1
            """);
    }

    private static void nobodyWaits() {
        String busy = "activity 0 0 9 = 1; activity 0 2 2 = 1; activity 0 4 1 = 0; activity 0 3 9 = 0; activity 1 4 1 = 0; step 4 0 0 0 = 0;";
        String goesOn = """
            ;jobs = *; load 0 = 1; advance 8 = 9; job 0 2 = 1; job 0 3 = -1; load 0 = 0; advance 9 = 18; load 0 = 1; advance 9 = 27
            job 0 2 = 2; job 0 3 = 1; load 0 = 0
            """;
        Runs.check("Jobs that nobody waits for go on all the same: DONE", busy + "start 0 5 = DONE; advance 1 = 1" + goesOn.replace("*", "1"));
        Runs.check("Jobs that nobody waits for go on all the same: UNDONE", busy + "step 12 0 0 0 = 1; start 0 5 = UNDONE; advance 1 = 1" + goesOn.replace("*", "1"));
        Runs.check("Jobs that nobody waits for go on all the same: BROKEN", busy + "step 5 1 0 0 = 1; start 0 5 = BROKEN; advance 1 = 1" + goesOn.replace("*", "1"));
        Runs.check("Jobs that nobody waits for go on all the same: STUCK", busy
            + "step 6 1 0 0 = 1; step 12 0 0 0 = 2; start 0 5 = WAITING; advance 1 = 1; state 0 = STUCK" + goesOn.replace("*", "2"));
    }
}
