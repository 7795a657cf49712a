/** Promises 10 to 22: what the object tells of its runs. */
public final class QueriesTest {
    private QueriesTest() {
    }

    public static void main(String[] args) {
        timeAndState();
        resultAndVariable();
        waitsAt();
        pile();
        jobs();
        attempts();
        load();
        signals();
        orderAndLimits();
        Runs.end();
    }

    private static void timeAndState() {
        Runs.check("promise 10: time", """
            time = 0; advance 3 = 3; time = 3; start 0 0 = DONE; time = 3; advance 100 = 103; time = 103
            crash; time = 103; reset; time = 0
            """);
        Runs.check("promise 11: state", """
            state -1 = BAD_ARG; state 3 = BAD_ARG; state MAX = BAD_ARG; state MIN = BAD_ARG
            state 0 = IDLE; state 1 = IDLE; state 2 = IDLE; step 7 0 0 0 = 0
            start 1 2 = WAITING; state 0 = IDLE; state 1 = WAITING; state 2 = IDLE
            advance 1 = 1; state 1 = WAITING; advance 1 = 2; state 1 = DONE; advance 9 = 11; state 1 = DONE
            """);
    }

    private static void resultAndVariable() {
        Runs.check("promise 12: result", """
            result 0 = 0; step 7 0 0 0 = 0; step 11 0 0 0 = 1
            start 0 -8 = DONE; result 0 = -8; start 1 5 = WAITING; result 1 = 0; advance 5 = 5; result 1 = 5
            start 2 MIN = DONE; result 2 = MIN; result 0 = -8
            """);
        Runs.check("promise 12: 0 for one that ended otherwise", """
            step 9 0 1 2 = 0; step 5 0 0 0 = 1; step 12 0 0 0 = 2
            start 0 -5 = UNDONE; result 0 = 0; start 1 5 = BROKEN; result 1 = 0
            variable 0 0 = -5; variable 1 0 = 5
            """);
        Runs.check("promise 12: 0 behind the last step", """
            step 0 1 7 0 = 0; start 0 9 = DONE; result 0 = 0; variable 0 0 = 9; variable 0 1 = 7
            """);
        Runs.check("promise 13: variable", """
            variable 0 0 = 0; step 0 1 5 0 = 0; step 0 3 -6 0 = 1; step 7 0 0 0 = 2; step 0 2 8 0 = 3
            start 1 4 = WAITING; variable 1 0 = 4; variable 1 1 = 5; variable 1 2 = 0; variable 1 3 = -6
            variable 1 4 = 0; variable 1 -1 = 0; variable 1 MAX = 0; variable 1 MIN = 0
            variable 0 0 = 0; variable 0 1 = 0; variable 2 0 = 0; variable 2 3 = 0
            advance 4 = 4; state 1 = DONE; variable 1 0 = 4; variable 1 2 = 8; variable 1 3 = -6
            """);
    }

    private static void waitsAt() {
        Runs.check("promise 14: waitsAt", """
            waitsAt 0 = NONE; step 7 0 0 0 = 0; step 3 0 0 1 = 1; step 10 0 1 5 = 2; step 4 0 0 0 = 3
            step 5 0 1 0 = 4; start 0 2 = WAITING; waitsAt 0 = 0; waitsAt 1 = NONE; advance 1 = 1; waitsAt 0 = 0
            advance 1 = 2; waitsAt 0 = 1; advance 1 = 3; waitsAt 0 = 2; advance 4 = 7; waitsAt 0 = 2
            advance 1 = 8; waitsAt 0 = 4; advance 1 = 9; waitsAt 0 = NONE; state 0 = DONE
            """);
        Runs.check("promise 14: the step at which it failed, by a job of kind 3 and of kind 5, and by kind 12", """
            activity 1 4 1 = 0; step 6 0 0 0 = 0; step 6 0 0 0 = 1; step 9 0 3 6 = 2; step 9 3 0 8 = 3
            step 3 1 0 1 = 4; step 8 9 0 0 = 5; step 12 0 0 0 = 6; step 11 0 0 0 = 7; step 4 1 0 2 = 8
            step 5 2 1 0 = 9; start 0 -1 = WAITING; waitsAt 0 = 6; start 1 0 = WAITING; waitsAt 1 = 4
            start 2 1 = WAITING; waitsAt 2 = 9; advance 1 = 1; waitsAt 0 = 6; waitsAt 1 = 4; waitsAt 2 = 9
            pile 0 = 0; pile 1 = 1; pile 2 = 2; advance 1 = 2; state 0 = UNDONE; waitsAt 1 = 4; waitsAt 2 = 9
            pile 2 = 1; advance 20 = 22; waitsAt 0 = NONE; waitsAt 1 = NONE; waitsAt 2 = NONE
            state 0 = UNDONE; state 1 = UNDONE; state 2 = UNDONE
            """);
    }

    private static void pile() {
        Runs.check("promise 15: pile", """
            pile 0 = 0; step 6 0 0 0 = 0; step 7 0 0 0 = 1; step 6 1 0 0 = 2; step 6 0 0 0 = 3
            step 12 0 0 0 = 4; start 1 3 = WAITING; pile 0 = 0; pile 1 = 1; pile 2 = 0
            advance 3 = 3; pile 1 = 2; waitsAt 1 = 4; jobs = 1; advance 1 = 4; pile 1 = 1; jobs = 2
            advance 1 = 5; pile 1 = 0; jobs = 3; state 1 = WAITING; advance 1 = 6; state 1 = UNDONE; pile 1 = 0
            """);
        Runs.check("promise 15: what was not asked for stays when the workflow ends", """
            activity 1 4 1 = 0; step 6 0 0 0 = 0; step 6 1 0 0 = 1; step 9 0 2 4 = 2; step 9 2 0 5 = 3
            step 12 0 0 0 = 4; step 8 19 0 0 = 5
            start 0 -1 = WAITING; pile 0 = 1; advance 1 = 1; state 0 = STUCK; pile 0 = 1
            start 1 1 = DONE; pile 1 = 2; advance 5 = 6; pile 1 = 2; pile 0 = 1; reset; pile 1 = 0
            """);
        Runs.check("promise 15: BROKEN keeps the pile", """
            step 6 0 0 0 = 0; step 5 0 0 0 = 1; start 0 1 = BROKEN; pile 0 = 1; jobs = 0
            """);
    }

    private static void jobs() {
        Runs.check("promise 16: jobs", """
            jobs = 0; step 4 0 0 0 = 0; step 6 0 0 0 = 1; step 4 1 0 1 = 2; step 7 0 0 0 = 3; step 12 0 0 0 = 4
            start 0 2 = WAITING; jobs = 2; start 2 3 = WAITING; jobs = 4; advance 1 = 1; jobs = 4
            advance 1 = 2; jobs = 5; advance 1 = 3; jobs = 6; advance 50 = 53; jobs = 6
            """);
        Runs.check("promise 17: job", """
            job 0 0 = NONE; job -1 0 = NONE; job 0 4 = BAD_ARG; job 0 -1 = BAD_ARG; job -1 4 = BAD_ARG
            activity 3 2 2 = 1; activity 3 4 1 = 0; activity 2 4 1 = 0
            step 4 3 0 0 = 0; step 4 2 0 1 = 1; step 7 0 0 0 = 2
            start 0 -50 = DONE; job 0 0 = 3; job 0 1 = -50; job 0 2 = 0; job 0 3 = -1
            job 1 0 = 2; job 1 1 = -50; job 1 2 = 0; job 1 3 = -1; job 2 0 = NONE; job -1 0 = NONE
            job MAX 0 = NONE; job MIN 3 = NONE; job 0 MAX = BAD_ARG; job 0 MIN = BAD_ARG; job 2 4 = BAD_ARG
            advance 1 = 1; job 0 2 = 1; job 0 3 = -1; job 1 2 = 1; job 1 3 = 0
            advance 1 = 2; job 0 2 = 2; job 0 3 = 1; advance 9 = 11; job 0 2 = 2; job 1 2 = 1; job 1 3 = 0
            job 0 0 = 3; job 0 1 = -50
            """);
    }

    private static void attempts() {
        Runs.check("promises 18 and 19: attempts in the order in which they end", """
            attempts = 0; attempt 0 0 = NONE; attempt 0 2 = BAD_ARG; attempt 0 -1 = BAD_ARG
            activity 0 0 3 = 1; activity 1 0 2 = 1; activity 1 2 2 = 1; activity 1 4 1 = 0
            step 4 0 0 0 = 0; step 4 1 0 1 = 1; step 4 2 0 2 = 2; start 0 5 = DONE; attempts = 0
            advance 1 = 1; attempts = 1; attempt 0 0 = 2; attempt 0 1 = 1; attempt 1 0 = NONE
            advance 1 = 2; attempts = 2; attempt 1 0 = 1; attempt 1 1 = 2
            advance 1 = 3; attempts = 3; attempt 2 0 = 0; attempt 2 1 = 3
            advance 1 = 4; attempts = 4; attempt 3 0 = 1; attempt 3 1 = 4; attempt 4 0 = NONE
            attempt -1 0 = NONE; attempt MAX 1 = NONE; attempt MIN 1 = NONE; attempt 4 2 = BAD_ARG
            attempt 0 MAX = BAD_ARG; attempt 0 MIN = BAD_ARG; attempt 0 1 = 1; advance 5 = 9; attempts = 4
            """);
        Runs.check("promise 19: at the same time by rising numbers of jobs", """
            activity 1 0 2 = 1; activity 3 0 2 = 1; activity 3 1 2 = 1
            step 4 3 0 0 = 0; step 4 1 0 1 = 1; step 4 3 0 2 = 2; start 2 5 = DONE; advance 9 = 9
            attempts = 3; attempt 0 0 = 0; attempt 1 0 = 1; attempt 2 0 = 2
            attempt 0 1 = 2; attempt 1 1 = 2; attempt 2 1 = 2
            """);
    }

    private static void load() {
        Runs.check("promise 20: load", """
            load -1 = BAD_ARG; load 4 = BAD_ARG; load MAX = BAD_ARG; load MIN = BAD_ARG
            activity 1 0 2 = 1; activity 1 2 3 = 1; activity 1 3 3 = 0; activity 1 4 2 = 0
            step 4 1 0 0 = 0; step 4 1 0 1 = 1; step 4 2 0 2 = 2; start 0 5 = DONE
            load 0 = 0; load 1 = 2; load 2 = 1; load 3 = 0
            advance 1 = 1; load 1 = 2; load 2 = 0
            advance 1 = 2; load 1 = 1; advance 1 = 3; load 1 = 1
            advance 1 = 4; load 1 = 0; advance 1 = 5; load 1 = 1; advance 2 = 7; load 1 = 1
            advance 2 = 9; load 1 = 0; advance 3 = 12; load 1 = 0; advance 1 = 13; load 1 = 1
            """);
        Runs.check("promise 20: jobs that are over and other activities do not count", """
            step 4 0 0 0 = 0; start 0 1 = DONE; start 1 1 = DONE; start 2 1 = DONE; load 0 = 3; load 1 = 0
            advance 1 = 1; load 0 = 2; advance 1 = 2; load 0 = 1; advance 1 = 3; load 0 = 0
            """);
    }

    private static void signals() {
        Runs.check("promise 21: signals", """
            signals 0 = 0; step 7 0 0 0 = 0; step 10 1 1 9 = 1; step 10 1 2 9 = 2; start 0 2 = WAITING
            signals 0 = 0; signal 0 0 5 = WAITING; signals 0 = 1; signal 0 1 6 = WAITING; signals 0 = 2
            signals 1 = 0; signals 2 = 0; advance 2 = 2; signals 0 = 1; waitsAt 0 = 2
            signal 0 1 7 = DONE; signals 0 = 1; variable 0 1 = 6; variable 0 2 = 7
            reset; signals 0 = 0
            """);
    }

    private static void orderAndLimits() {
        for (String i : new String[] {"-1", "3", "MAX", "MIN"}) {
            Runs.check("promise 22: wrong workflows", """
                step 6 0 0 0 = 0; step 10 0 0 1 = 1; step 11 0 0 0 = 2; start 0 1 = WAITING; start 1 1 = WAITING
                start 2 1 = WAITING; signal 0 1 1 = WAITING; signal 2 1 1 = WAITING
                result I = 0; variable I 0 = 0; variable I 3 = 0; pile I = 0; signals I = 0; waitsAt I = NONE
                variable I 9 = 0; variable 0 I = 0; advance 1 = 1
                result I = 0; variable I 0 = 0; waitsAt I = NONE
                """.replace(" I", " " + i));
        }
        Runs.check("promise 22: a handle that has a job breaks the workflow and asks for none", """
            step 4 0 0 1 = 0; step 4 0 0 1 = 1; step 11 0 0 0 = 2
            start 0 3 = BROKEN; jobs = 1; load 0 = 1; advance 1 = 1; attempts = 1; job 0 3 = 1; jobs = 1
            state 0 = BROKEN; result 0 = 0; waitsAt 0 = NONE
            """);
        Runs.check("promise 22: even if that job is over", """
            step 4 0 0 2 = 0; step 7 0 0 0 = 1; step 4 1 0 2 = 2; start 0 3 = WAITING; advance 3 = 3
            job 0 3 = 1; state 0 = BROKEN; jobs = 1
            """);
        Runs.check("promise 22: other handles and other workflows' handles are free", """
            step 4 0 0 0 = 0; step 4 0 0 1 = 1; step 4 0 0 2 = 2; step 5 1 0 0 = 3; step 4 0 0 1 = 4
            start 0 3 = WAITING; start 1 4 = WAITING; jobs = 6; advance 20 = 20; state 0 = DONE; state 1 = DONE
            jobs = 8
            """);
    }
}
