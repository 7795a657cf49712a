/** Jobs, attempts and workers, and the order of things at each point of time. */
public final class AttemptsTest {
    private AttemptsTest() {
    }

    public static void main(String[] args) {
        retries();
        workers();
        readyOrder();
        orderAtOnePoint();
        Runs.end();
    }

    private static void retries() {
        Runs.check("the delay doubles behind each failed attempt", """
            activity 0 0 2 = 1; activity 0 2 4 = 1; activity 0 3 3 = 0; activity 0 4 3 = 0; step 3 0 0 1 = 0
            start 0 1 = WAITING; advance 60 = 60; attempts = 4; attempt 0 1 = 2; attempt 1 1 = 7
            attempt 2 1 = 15; attempt 3 1 = 29; state 0 = DONE; job 0 2 = 4; job 0 3 = 1
            """);
        Runs.check("the longest delay", """
            activity 0 2 4 = 1; activity 0 3 9 = 0; activity 0 4 4 = 0; step 3 0 0 1 = 0; start 0 1 = WAITING
            advance 100 = 100; attempts = 4; attempt 0 1 = 1; attempt 1 1 = 11; attempt 2 1 = 30
            attempt 3 1 = 67; state 0 = UNDONE; job 0 3 = 0
            """);
        Runs.check("without delay the next attempt begins when the failed one ends", """
            activity 0 0 3 = 1; activity 0 2 3 = 1; activity 0 4 2 = 0; step 3 0 0 1 = 0; start 0 1 = WAITING
            advance 3 = 3; attempts = 1; load 0 = 1; advance 3 = 6; attempts = 2; advance 3 = 9
            attempts = 3; attempt 2 1 = 9; job 0 3 = 1; state 0 = DONE
            """);
        Runs.check("the last try fails or succeeds", """
            activity 0 2 2 = 1; activity 0 4 1 = 0; activity 1 2 2 = 1; activity 1 4 2 = 0
            activity 2 2 4 = 1; step 4 0 0 0 = 0; step 4 1 0 1 = 1; step 4 2 0 2 = 2; start 0 1 = DONE
            advance 9 = 9; job 0 2 = 2; job 0 3 = 1; job 1 2 = 2; job 1 3 = 0; job 2 2 = 1; job 2 3 = 1
            """);
        Runs.check("failures are those of every job", """
            activity 0 2 2 = 1; activity 0 4 1 = 0; step 3 0 0 1 = 0; step 3 0 0 1 = 1; start 0 1 = WAITING
            advance 3 = 3; attempts = 3; state 0 = WAITING; job 1 2 = 1; job 1 3 = -1; advance 1 = 4
            state 0 = DONE; attempts = 4
            """);
    }

    private static void workers() {
        Runs.check("as many at once as there are workers", """
            activity 0 0 4 = 1; activity 0 1 2 = 1; step 4 0 0 0 = 0; step 4 0 0 1 = 1; step 4 0 0 2 = 2
            start 0 1 = DONE; start 1 1 = DONE; load 0 = 6; advance 12 = 12; attempts = 6
            attempt 0 1 = 4; attempt 1 1 = 4; attempt 2 1 = 8; attempt 3 1 = 8; attempt 4 1 = 12; attempt 5 1 = 12
            attempt 5 0 = 5
            """);
        Runs.check("three workers, and activities have their own", """
            activity 0 0 4 = 1; activity 0 1 3 = 1; activity 1 0 4 = 1
            step 4 0 0 0 = 0; step 4 1 0 1 = 1; step 4 0 0 2 = 2; start 0 1 = DONE; start 1 1 = DONE
            advance 4 = 4; attempts = 4; attempt 0 0 = 0; attempt 1 0 = 1; attempt 2 0 = 2; attempt 3 0 = 3
            advance 4 = 8; attempts = 6; attempt 4 0 = 4; attempt 5 0 = 5
            """);
        Runs.check("a worker is free while the job waits for its next attempt", """
            activity 0 0 2 = 1; activity 0 2 2 = 1; activity 0 3 9 = 0; activity 0 4 1 = 0
            step 4 0 0 0 = 0; step 4 0 0 1 = 1; start 0 1 = DONE; advance 2 = 2; load 0 = 1; advance 2 = 4
            attempts = 2; attempt 1 0 = 1; load 0 = 0; advance 7 = 11; load 0 = 1; advance 2 = 13; load 0 = 1
            attempts = 3; attempt 2 0 = 0; advance 2 = 15; attempts = 4; attempt 3 0 = 1
            """);
    }

    private static void readyOrder() {
        Runs.check("which was ready first begins first, whatever its number", """
            activity 0 0 3 = 1; activity 0 2 2 = 1; activity 0 4 1 = 0; step 4 0 0 0 = 0; step 4 0 0 1 = 1
            step 4 0 0 2 = 2; start 0 1 = DONE; advance 18 = 18; attempts = 6
            attempt 0 0 = 0; attempt 1 0 = 1; attempt 2 0 = 2; attempt 3 0 = 0; attempt 4 0 = 1; attempt 5 0 = 2
            """);
        Runs.check("of those ready at the same time that of the lesser number", """
            activity 0 0 4 = 1; activity 0 1 2 = 1; activity 0 2 2 = 1; activity 0 3 1 = 0; activity 0 4 1 = 0
            step 4 0 0 0 = 0; step 4 0 0 1 = 1; step 7 0 0 0 = 2; step 4 0 0 2 = 3
            start 0 5 = WAITING; advance 5 = 5; jobs = 3; load 0 = 3; advance 4 = 9; attempts = 4
            attempt 2 0 = 0; attempt 3 0 = 1; job 2 2 = 0; advance 4 = 13; attempts = 5; attempt 4 0 = 2
            """);
        Runs.check("an attempt that fails now stands behind one that was ready before", """
            activity 0 0 2 = 1; activity 0 2 2 = 1; activity 0 4 1 = 0; step 4 0 0 0 = 0
            start 0 1 = DONE; advance 1 = 1; start 1 1 = DONE; advance 3 = 4; attempts = 2; attempt 1 0 = 1
            """);
    }

    private static void orderAtOnePoint() {
        Runs.check("attempts end, then workflows go on, then attempts begin", """
            activity 0 0 2 = 1; step 3 0 0 1 = 0; step 3 0 1 2 = 1; start 0 1 = WAITING; start 1 2 = WAITING
            advance 2 = 2; jobs = 3; job 2 1 = 1; waitsAt 0 = 1; waitsAt 1 = 0; load 0 = 2
            advance 2 = 4; jobs = 4; job 3 1 = 2; attempt 1 0 = 1; advance 2 = 6; state 0 = DONE; attempt 2 0 = 2
            advance 2 = 8; state 1 = DONE
            """);
        Runs.check("workflows go on by rising numbers, not in the order in which they started", """
            step 7 0 0 0 = 0; step 3 0 0 1 = 1; start 2 4 = WAITING; advance 1 = 1; start 1 3 = WAITING
            advance 1 = 2; start 0 2 = WAITING; advance 2 = 4; jobs = 3; job 0 1 = 2; job 1 1 = 3; job 2 1 = 4
            advance 1 = 5; attempt 0 0 = 0; state 0 = DONE; state 1 = WAITING; advance 2 = 7; state 2 = DONE
            """);
        Runs.check("all attempts end before a workflow goes on", """
            activity 1 0 3 = 1; activity 0 0 3 = 1; step 4 0 0 0 = 0; step 4 1 0 1 = 1; step 5 0 2 0 = 2
            step 5 1 3 0 = 3; start 0 8 = WAITING; advance 3 = 3; state 0 = DONE; variable 0 2 = 8; variable 0 3 = 8
            """);
        Runs.check("a worker that is freed takes the job that a workflow then asks for", """
            activity 0 0 2 = 1; step 3 0 0 0 = 0; step 3 0 0 0 = 1; start 0 1 = WAITING; advance 4 = 4
            attempts = 2; attempt 1 1 = 4; state 0 = DONE
            """);
        Runs.check("a start between does not take the place of one that was ready", """
            activity 0 0 5 = 1; step 3 0 0 1 = 0; start 2 1 = WAITING; advance 2 = 2; start 0 2 = WAITING
            advance 1 = 3; start 1 3 = WAITING; advance 12 = 15; attempt 0 0 = 0; attempt 1 0 = 1; attempt 2 0 = 2
            attempt 1 1 = 10; job 1 1 = 2; job 2 1 = 3; state 1 = DONE
            """);
    }
}
