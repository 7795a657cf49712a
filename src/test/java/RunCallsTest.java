/** Promises 5 to 9: start, signal, advance, crash and reset. */
public final class RunCallsTest {
    private RunCallsTest() {
    }

    public static void main(String[] args) {
        start();
        signal();
        advance();
        crash();
        reset();
        Runs.end();
    }

    private static void start() {
        Runs.check("promise 5: wrong and second starts", """
            step 7 0 0 0 = 0
            start 3 0 = BAD_ARG; start -1 0 = BAD_ARG; start MAX 0 = BAD_ARG; start MIN 0 = BAD_ARG
            state 0 = IDLE; state 1 = IDLE; state 2 = IDLE
            start 1 4 = WAITING; start 1 5 = BUSY; variable 1 0 = 4; start 3 0 = BAD_ARG
            advance 4 = 4; state 1 = DONE; start 1 5 = BUSY; state 1 = DONE; variable 1 0 = 4
            start 0 0 = DONE; start 2 MAX = WAITING; variable 2 0 = MAX
            reset; start 1 0 = DONE
            """);
        Runs.check("promise 5: answers every state that a start can lead to", """
            step 9 0 1 4 = 0; step 9 1 0 6 = 1; step 11 0 0 0 = 2; step 12 0 0 0 = 3
            step 12 0 0 0 = 4; step 12 0 0 0 = 5; step 5 0 0 0 = 6
            start 0 0 = DONE; start 1 -1 = UNDONE; start 2 1 = BROKEN
            state 0 = DONE; state 1 = UNDONE; state 2 = BROKEN
            """);
        Runs.check("promise 5: the first attempt begins at once", """
            activity 0 0 2 = 1; step 3 0 0 1 = 0; step 11 1 0 0 = 1
            advance 5 = 5; start 0 8 = WAITING; load 0 = 1; jobs = 1; job 0 1 = 8
            advance 1 = 6; attempts = 0; advance 1 = 7; attempts = 1; attempt 0 1 = 7
            state 0 = DONE; result 0 = 8
            """);
        Runs.check("promise 5: variables are x, 0, 0, 0 at first", """
            step 7 0 0 0 = 0; start 0 -7 = DONE; start 1 3 = WAITING
            variable 0 0 = -7; variable 0 1 = 0; variable 0 2 = 0; variable 0 3 = 0
            variable 1 0 = 3; variable 1 1 = 0; variable 1 2 = 0; variable 1 3 = 0
            """);
    }

    private static void signal() {
        Runs.check("promise 6: order of tests", """
            signal 3 0 1 = BAD_ARG; signal -1 0 1 = BAD_ARG; signal 0 2 1 = BAD_ARG; signal 0 -1 1 = BAD_ARG
            signal MAX 0 1 = BAD_ARG; signal 0 MIN 1 = BAD_ARG
            signal 0 0 1 = NONE; signal 2 1 1 = NONE; step 7 0 0 0 = 0; start 0 5 = WAITING
            signal 0 0 1 = WAITING; signal 0 0 2 = WAITING; signal 0 1 3 = WAITING
            signal 0 1 4 = WAITING; signal 0 0 5 = WAITING; signals 0 = 5; signal 0 1 6 = WAITING
            signals 0 = 6; signal 0 0 7 = FULL; signal 0 2 7 = BAD_ARG; signals 0 = 6
            signal 1 0 7 = NONE; advance 5 = 5; state 0 = DONE; signal 0 0 7 = NONE; signals 0 = 6
            """);
        Runs.check("promise 6: signals that were taken count for the limit", """
            step 10 0 1 50 = 0; step 8 0 0 0 = 1; start 0 0 = WAITING
            signal 0 0 11 = WAITING; signal 0 0 12 = WAITING; signal 0 0 13 = WAITING
            signal 0 0 14 = WAITING; signal 0 0 15 = WAITING; signal 0 0 16 = WAITING
            signals 0 = 0; variable 0 1 = 16; signal 0 0 17 = FULL; variable 0 1 = 16; waitsAt 0 = 0
            start 1 0 = WAITING; signal 1 0 MIN = WAITING; variable 1 1 = MIN
            reset; start 0 0 = WAITING; signal 0 0 9 = WAITING; variable 0 1 = 9
            """);
        Runs.check("promise 6: lets the workflow go on at once, and ready attempts begin", """
            activity 2 0 3 = 1; step 10 1 1 50 = 0; step 3 2 1 2 = 1; step 11 2 0 0 = 2
            start 0 0 = WAITING; start 1 0 = WAITING; advance 4 = 4
            signal 0 0 5 = WAITING; waitsAt 0 = 0; jobs = 0
            signal 0 1 6 = WAITING; waitsAt 0 = 1; waitsAt 1 = 0; jobs = 1; load 2 = 1
            advance 3 = 7; attempt 0 1 = 7; state 0 = DONE; result 0 = 6; state 1 = WAITING
            """);
        Runs.check("promise 6: answers the state behind it", """
            step 10 1 1 50 = 0; step 9 1 2 4 = 1; step 9 2 1 5 = 2; step 11 1 0 0 = 3
            step 12 0 0 0 = 4; step 5 1 1 0 = 5
            start 0 0 = WAITING; start 1 0 = WAITING; start 2 0 = WAITING
            signal 0 1 0 = DONE; signal 1 1 -3 = UNDONE; signal 2 1 3 = BROKEN
            signal 0 1 0 = NONE; signal 1 1 0 = NONE; signal 2 1 0 = NONE
            """);
        Runs.check("promise 6: one that takes back has not ended", """
            activity 0 0 4 = 1; step 6 0 0 0 = 0; step 12 0 0 0 = 1; start 0 0 = WAITING
            signal 0 0 1 = WAITING; signals 0 = 1; waitsAt 0 = 1; advance 4 = 4
            state 0 = UNDONE; signal 0 0 1 = NONE; signals 0 = 1
            """);
    }

    private static void advance() {
        Runs.check("promise 7: range", """
            advance -1 = BAD_ARG; advance 101 = BAD_ARG; advance MAX = BAD_ARG; advance MIN = BAD_ARG
            time = 0; advance 0 = 0; advance 100 = 100; advance 1 = 101; advance 0 = 101; time = 101
            """);
        Runs.check("promise 7: 0 lets nothing end, each 1 is a point of time", """
            activity 0 0 2 = 1; step 3 0 0 1 = 0; step 8 0 0 0 = 1; start 0 3 = WAITING
            advance 0 = 0; attempts = 0; advance 1 = 1; attempts = 0; advance 0 = 1; attempts = 0
            advance 1 = 2; attempts = 1; jobs = 2; advance 5 = 7; attempts = 3; attempt 2 1 = 6
            advance -5 = BAD_ARG; time = 7; attempts = 3; advance 101 = BAD_ARG; attempts = 3
            """);
        Runs.check("promise 7: goes on without any workflow and past ended ones", """
            advance 7 = 7; start 0 1 = DONE; advance 3 = 10; time = 10; state 0 = DONE
            """);
    }

    private static void crash() {
        String set = """
            activity 0 0 3 = 1; activity 0 2 2 = 1; activity 0 4 1 = 0; activity 0 3 2 = 0; crash
            step 4 0 0 0 = 0; step 6 1 0 0 = 1; step 7 0 0 0 = 2; step 10 0 1 9 = 3; crash
            step 5 0 2 0 = 4; step 12 0 0 0 = 5; crash
            start 0 2 = WAITING; crash; start 1 5 = WAITING; crash; waitsAt 0 = 2; pile 0 = 1
            signal 0 0 70 = WAITING; crash; signals 0 = 1; advance 2 = 2; crash; waitsAt 0 = 4
            variable 0 1 = 70; load 0 = 2; crash; advance 3 = 5; crash; attempts = 1; waitsAt 1 = 3
            signal 1 0 4 = WAITING; crash; waitsAt 1 = 4; advance 4 = 9; crash; attempts = 3
            state 0 = WAITING; waitsAt 0 = 5; pile 0 = 0; jobs = 3; job 0 3 = 1; job 1 2 = 1; job 2 0 = 1
            crash; advance 20 = 29; crash; state 0 = UNDONE; state 1 = UNDONE; jobs = 4; crash; attempts = 6
            """;
        Runs.check("promise 8: nothing is lost", set);
        Runs.check("promise 8: the same without a crash", set.replace("crash", ""));
        Runs.check("promise 8: a started and a new object", """
            crash; time = 0; state 0 = IDLE; step 11 0 0 0 = 0; crash; start 0 4 = DONE; crash
            result 0 = 4; unstep = BUSY; start 0 4 = BUSY; crash; reset; crash; unstep = 0
            """);
        Runs.check("promise 8: steps and jobs done before it count for the limits", """
            step 3 0 0 1 = 0; step 8 0 0 0 = 1; start 0 1 = WAITING; advance 15 = 15; crash
            advance 14 = 29; crash; jobs = 30; state 0 = WAITING; advance 1 = 30; state 0 = BROKEN; jobs = 30
            """);
    }

    private static void reset() {
        Runs.check("promise 9: nothing is left of the runs, all of steps and activities", """
            activity 0 0 3 = 1; activity 0 5 2 = 1; step 6 1 0 0 = 0; step 4 0 0 0 = 1; step 3 0 0 1 = 2
            step 10 0 2 9 = 3; step 11 1 0 0 = 4
            start 0 5 = WAITING; start 1 6 = WAITING; signal 0 1 8 = WAITING; advance 4 = 4
            pile 0 = 1; signals 0 = 1; jobs = 4; attempts = 1; load 0 = 3
            reset; time = 0; state 0 = IDLE; state 1 = IDLE; variable 0 0 = 0; variable 1 0 = 0
            waitsAt 0 = NONE; pile 0 = 0; signals 0 = 0; jobs = 0; attempts = 0; load 0 = 0; result 0 = 0
            job 0 0 = NONE; attempt 0 0 = NONE; signal 0 0 1 = NONE; advance 6 = 6; attempts = 0; jobs = 0
            reset; activity 0 0 3 = 3; activity 0 5 2 = 2
            start 0 5 = WAITING; jobs = 2; load 0 = 2; pile 0 = 1; signals 0 = 0; variable 0 2 = 0; job 0 2 = 0
            job 0 3 = -1; advance 3 = 3; attempt 0 1 = 3; waitsAt 0 = 2; advance 3 = 6; waitsAt 0 = 3
            signal 0 0 1 = DONE; result 0 = 10
            reset; result 0 = 0; unstep = 4; unstep = 3
            """);
        Runs.check("promise 9: steps done and jobs asked for before it do not count", """
            step 3 0 0 1 = 0; step 8 0 0 0 = 1; start 0 1 = WAITING; advance 29 = 29; jobs = 30
            reset; start 0 1 = WAITING; advance 29 = 29; state 0 = WAITING; jobs = 30
            advance 1 = 30; state 0 = BROKEN; reset; state 0 = IDLE; start 0 1 = WAITING
            """);
        Runs.check("promise 9: one that was taking back starts afresh", """
            step 6 0 0 0 = 0; step 7 0 0 0 = 1; step 12 0 0 0 = 2
            start 0 0 = WAITING; waitsAt 0 = 2; reset; start 0 4 = WAITING; waitsAt 0 = 1; pile 0 = 1
            advance 4 = 4; waitsAt 0 = 2; jobs = 1; job 0 1 = 4; reset; reset; time = 0
            """);
    }
}
