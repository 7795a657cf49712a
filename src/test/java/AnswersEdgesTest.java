/**
 * The boundary cases that promises 10 to 22 name, sentence by sentence: each check bears the words of
 * the document that it holds the class to.
 */
public final class AnswersEdgesTest {
    private static final String[] NO_WORKFLOWS = {"-1", "3", "4", "MIN", "MAX"};
    /** All three workflows wait with a pile, a signal, and variables that are not 0. */
    private static final String ALL_WAIT = """
        activity 0 0 9 = 1; step 6 1 0 0 = 0; step 0 1 11 0 = 1; step 0 2 12 0 = 2; step 0 3 13 0 = 3; step 3 0 0 1 = 4; step 11 0 0 0 = 5
        start 0 5 = WAITING; start 1 6 = WAITING; start 2 7 = WAITING
        signal 0 0 1 = WAITING; signal 1 1 2 = WAITING; signal 2 0 3 = WAITING; advance 1 = 1
        """;
    /** All three end DONE, the first with 5. */
    private static final String ALL_END = "advance 30 = 31; result 0 = 5; state 0 = DONE; state 1 = DONE; state 2 = DONE";

    private AnswersEdgesTest() {
    }

    public static void main(String[] args) {
        time();
        state();
        result();
        variable();
        waitsAt();
        pile();
        jobs();
        jobWhat();
        jobNumber();
        jobAnswers();
        attempts();
        attemptWhat();
        attemptNumber();
        attemptAnswers();
        load();
        signals();
        wrongWorkflows();
        filledHandle();
        Runs.end();
    }

    private static void time() {
        Runs.check("10: The time", "time = 0; advance 0 = 0; time = 0; advance 100 = 100; time = 100; advance 101 = BAD_ARG; time = 100; reset; time = 0");
    }

    private static void state() {
        for (String i : NO_WORKFLOWS) {
            Runs.check("11: BAD_ARG if i is not 0 to 2, on a new object", "state " + i + " = BAD_ARG");
            Runs.refused("11: BAD_ARG if i is not 0 to 2", ALL_WAIT, "state " + i + " = BAD_ARG", ALL_END);
        }
        Runs.check("11: the least and the greatest i", "step 7 0 0 0 = 0; start 0 0 = DONE; start 2 1 = WAITING; state 0 = DONE; state 1 = IDLE; state 2 = WAITING");
        Runs.check("11: The state of workflow i, each that there is", """
            activity 1 4 1 = 0; step 9 0 1 4 = 0; step 9 1 0 3 = 1; step 11 0 0 0 = 2; step 5 0 0 0 = 3; step 6 1 0 0 = 4; step 12 0 0 0 = 5
            state 0 = IDLE; start 0 0 = DONE; state 0 = DONE; start 1 1 = BROKEN; state 1 = BROKEN; start 2 -1 = WAITING
            state 2 = WAITING; advance 1 = 1; state 2 = STUCK; reset; state 0 = IDLE; state 1 = IDLE; state 2 = IDLE
            activity 1 4 0 = 1; start 2 -1 = WAITING; advance 1 = 1; state 2 = UNDONE
            """);
    }

    private static void result() {
        Runs.check("12: 0 if it did not end DONE: not started, and started but waiting", ALL_WAIT + "result 0 = 0; result 2 = 0; reset; result 0 = 0; result 2 = 0");
        Runs.check("12: 0 if it did not end DONE: BROKEN, STUCK and UNDONE", """
            activity 1 4 1 = 0; step 9 0 1 3 = 0; step 9 1 0 2 = 1; step 5 0 0 0 = 2; step 6 1 0 0 = 3; step 12 0 0 0 = 4
            start 0 0 = BROKEN; result 0 = 0; start 1 7 = BROKEN; result 1 = 0; start 2 -7 = WAITING; advance 1 = 1; state 2 = STUCK; result 2 = 0
            reset; activity 1 4 0 = 1; start 2 -7 = WAITING; advance 1 = 1; state 2 = UNDONE; result 2 = 0; variable 2 0 = -7
            """);
        Runs.check("12: The value with which workflow i ended DONE, and behind the last step 0", """
            step 9 0 1 2 = 0; step 11 0 0 0 = 1; start 0 MAX = DONE; start 1 MIN = DONE; result 0 = MAX; result 1 = 0; result 2 = 0
            """);
        Runs.check("12: The value with which it ended, the least", "step 11 0 0 0 = 0; start 2 MIN = DONE; result 2 = MIN; start 0 -1 = DONE; result 0 = -1; result 2 = MIN");
        Runs.check("12: it is gone behind reset", "step 11 0 0 0 = 0; start 0 9 = DONE; reset; result 0 = 0; step 12 0 0 0 = 1; result 0 = 0");
    }

    private static void variable() {
        for (String v : new String[] {"-1", "4", "5", "MIN", "MAX"}) {
            Runs.check("13: 0 if there is none", ALL_WAIT + "variable 0 * = 0; variable 1 * = 0; variable 2 * = 0".replace("*", v));
        }
        Runs.check("13: the least and the greatest v", ALL_WAIT + "variable 0 0 = 5; variable 0 3 = 13; variable 1 0 = 6; variable 1 3 = 13; variable 2 0 = 7; variable 2 3 = 13");
        Runs.check("13: 0 if it was not started", """
            step 0 0 9 0 = 0; step 0 3 9 0 = 1; start 1 5 = DONE; variable 0 0 = 0; variable 0 3 = 0; variable 1 0 = 9; variable 1 3 = 9
            variable 2 0 = 0; variable 2 3 = 0; reset; variable 1 0 = 0; variable 1 3 = 0
            """);
        Runs.check("13: Variable v of one that has ended", ALL_WAIT + ALL_END + "; variable 0 0 = 5; variable 0 1 = 5; variable 0 3 = 13; variable 2 1 = 7");
    }

    private static void waitsAt() {
        Runs.check("14: NONE if it does not wait: not started, ended DONE", "step 11 0 0 0 = 0; waitsAt 0 = NONE; start 0 1 = DONE; waitsAt 0 = NONE; waitsAt 1 = NONE");
        Runs.check("14: NONE if it does not wait: ended BROKEN, STUCK, UNDONE, and behind reset", """
            activity 1 4 1 = 0; step 9 0 1 3 = 0; step 9 1 0 2 = 1; step 5 0 0 0 = 2; step 6 1 0 0 = 3; step 12 0 0 0 = 4
            start 0 0 = BROKEN; waitsAt 0 = NONE; start 2 -7 = WAITING; waitsAt 2 = 4; advance 1 = 1; state 2 = STUCK; waitsAt 2 = NONE
            reset; waitsAt 0 = NONE; waitsAt 2 = NONE; activity 1 4 0 = 1; start 2 -7 = WAITING; waitsAt 2 = 4; advance 1 = 1
            state 2 = UNDONE; waitsAt 2 = NONE; start 0 -1 = WAITING; waitsAt 0 = 4; reset; waitsAt 0 = NONE
            """);
        Runs.check("14: The number of the step at which workflow i waits: the first of all", "step 7 0 0 0 = 0; start 0 1 = WAITING; waitsAt 0 = 0; waitsAt 1 = NONE");
        String twenty = "";
        for (int k = 0; k < 19; k++) {
            twenty += "step 6 0 0 0 = " + k + ";";
        }
        Runs.check("14: The number of the step at which workflow i waits: the last of all", twenty + "step 10 0 0 1 = 19; start 2 1 = WAITING; waitsAt 2 = 19");
        Runs.check("14: for one that failed that at which it did: the last of all", twenty + """
            step 12 0 0 0 = 19; start 2 1 = WAITING; waitsAt 2 = 19; advance 18 = 18; waitsAt 2 = 19; advance 1 = 19; waitsAt 2 = NONE; state 2 = UNDONE
            """);
        Runs.check("14: for one that failed that at which it did: a job, of kind 3 and of kind 5", """
            activity 0 0 3 = 1; activity 1 4 1 = 0; step 6 0 0 0 = 0; step 9 0 1 3 = 1; step 3 1 0 1 = 2; step 4 1 0 1 = 3; step 5 1 1 0 = 4
            start 0 1 = WAITING; waitsAt 0 = 2; start 1 -1 = WAITING; waitsAt 1 = 4; advance 1 = 1; waitsAt 0 = 2; pile 0 = 0
            advance 1 = 2; waitsAt 1 = 4; pile 1 = 0; advance 2 = 4; state 0 = UNDONE; waitsAt 0 = NONE; waitsAt 1 = 4
            """);
    }

    private static void pile() {
        Runs.check("15: 0 if it was not started", ALL_WAIT + "pile 0 = 1; pile 1 = 1; pile 2 = 1; reset; pile 0 = 0; pile 1 = 0; pile 2 = 0; start 1 5 = WAITING; pile 0 = 0; pile 1 = 1");
        Runs.check("15: empty with nothing put on it", "step 7 0 0 0 = 0; start 0 5 = WAITING; pile 0 = 0");
        Runs.check("15: that were not yet asked for, down to 0", """
            step 6 0 0 0 = 0; step 6 0 0 0 = 1; step 7 0 0 0 = 2; step 12 0 0 0 = 3; start 0 1 = WAITING; pile 0 = 2; jobs = 0
            advance 1 = 1; pile 0 = 1; jobs = 1; advance 1 = 2; pile 0 = 0; jobs = 2; state 0 = WAITING; advance 1 = 3; pile 0 = 0; state 0 = UNDONE
            """);
        Runs.check("15: The number of jobs on the pile: as many as there can be", """
            step 6 0 0 0 = 0; step 6 0 0 0 = 1; step 6 0 0 0 = 2; step 6 0 0 0 = 3; step 6 0 0 0 = 4; step 6 0 0 0 = 5; step 6 0 0 0 = 6
            step 6 0 0 0 = 7; step 6 0 0 0 = 8; step 6 0 0 0 = 9; step 6 0 0 0 = 10; step 6 0 0 0 = 11; step 6 0 0 0 = 12; step 6 0 0 0 = 13
            step 6 0 0 0 = 14; step 6 0 0 0 = 15; step 6 0 0 0 = 16; step 6 0 0 0 = 17; step 6 0 0 0 = 18; step 8 0 0 0 = 19
            start 0 1 = BROKEN; pile 0 = 190; start 1 1 = BROKEN; start 2 1 = BROKEN; pile 1 = 190; pile 2 = 190; pile 0 = 190
            """);
    }

    private static void jobs() {
        Runs.check("16: The number of jobs asked for: none", "jobs = 0; step 6 0 0 0 = 0; start 0 1 = DONE; jobs = 0; advance 9 = 9; jobs = 0");
        Runs.check("16: The number of jobs asked for: the most there can be", """
            step 3 0 0 1 = 0; step 8 0 0 0 = 1; start 0 1 = WAITING; start 1 1 = WAITING; start 2 1 = WAITING; jobs = 3
            advance 100 = 100; jobs = 90; reset; jobs = 0
            """);
    }

    private static void jobWhat() {
        for (String what : new String[] {"-1", "4", "5", "MIN", "MAX"}) {
            Runs.refused("17: BAD_ARG if what is not 0 to 3", ALL_WAIT, "job 0 * = BAD_ARG; job 2 * = BAD_ARG".replace("*", what), ALL_END);
            Runs.check("17: BAD_ARG if what is not 0 to 3, tested first", ("job 0 * = BAD_ARG; job -1 * = BAD_ARG; job 90 * = BAD_ARG;"
                + "job MIN * = BAD_ARG; job MAX * = BAD_ARG;").replace("*", what));
        }
    }

    private static void jobNumber() {
        for (int what = 0; what < 4; what++) {
            Runs.check("17: NONE if there is no such job: none at all", "job 0 * = NONE; job -1 * = NONE; job 1 * = NONE".replace("*", "" + what));
            Runs.refused("17: NONE if there is no such job", ALL_WAIT,
                "job -1 * = NONE; job 3 * = NONE; job 89 * = NONE; job 90 * = NONE; job MIN * = NONE; job MAX * = NONE".replace("*", "" + what), ALL_END);
            Runs.check("17: NONE if there is no such job: behind reset", ALL_WAIT + "reset; job 0 * = NONE; job 2 * = NONE".replace("*", "" + what));
            Runs.check("17: NONE if there is no such job: behind the most there can be", """
                step 3 0 0 1 = 0; step 8 0 0 0 = 1; start 0 1 = WAITING; start 1 1 = WAITING; start 2 1 = WAITING; advance 100 = 100
                job 89 0 = 0; job 89 1 = 1; job 89 2 = 1; job 89 3 = 1; job 90 * = NONE
                """.replace("*", "" + what));
        }
    }

    private static void jobAnswers() {
        Runs.check("17: its activity and its input, the least and the greatest", """
            step 4 0 0 0 = 0; step 4 3 0 1 = 1; start 0 MIN = DONE; start 1 MAX = DONE; job 0 0 = 0; job 1 0 = 3; job 0 1 = MIN; job 3 1 = MAX
            """);
        Runs.check("17: how many attempts have ended, 1 if it is over and succeeded, .. -1 if it is not over", """
            activity 0 2 4 = 1; activity 0 4 3 = 0; step 4 0 0 0 = 0; start 0 1 = DONE; job 0 2 = 0; job 0 3 = -1; advance 1 = 1; job 0 2 = 1
            job 0 3 = -1; advance 2 = 3; job 0 2 = 3; job 0 3 = -1; advance 1 = 4; job 0 2 = 4; job 0 3 = 1; advance 50 = 54; job 0 2 = 4
            """);
        Runs.check("17: 0 if it is over and failed", """
            activity 0 2 4 = 1; activity 0 4 4 = 0; step 4 0 0 0 = 0; start 0 1 = DONE; advance 3 = 3; job 0 3 = -1; advance 1 = 4
            job 0 2 = 4; job 0 3 = 0; advance 50 = 54; job 0 2 = 4; job 0 3 = 0
            """);
    }

    private static void attempts() {
        Runs.check("18: The number of attempts that have ended: none, though one is under way", """
            attempts = 0; activity 0 0 2 = 1; step 4 0 0 0 = 0; start 0 1 = DONE; attempts = 0; advance 1 = 1; attempts = 0; advance 1 = 2; attempts = 1
            advance 9 = 11; attempts = 1; reset; attempts = 0
            """);
        Runs.check("18: The number of attempts that have ended: the most there can be", """
            activity 0 1 3 = 1; activity 0 2 4 = 1; activity 0 4 3 = 0; step 3 0 0 1 = 0; step 8 0 0 0 = 1; start 0 1 = WAITING
            start 1 1 = WAITING; start 2 1 = WAITING; advance 100 = 100; attempts = 300; advance 100 = 200; attempts = 360
            attempt 359 0 = 89; attempt 359 1 = 120; attempt 360 0 = NONE; attempt 360 1 = NONE
            """);
    }

    private static void attemptWhat() {
        for (String what : new String[] {"-1", "2", "3", "MIN", "MAX"}) {
            Runs.refused("19: BAD_ARG if what is not 0 or 1", ALL_WAIT + "advance 9 = 10", "attempt 0 * = BAD_ARG; attempt 1 * = BAD_ARG".replace("*", what),
                "advance 30 = 40");
            Runs.check("19: BAD_ARG if what is not 0 or 1, tested first", ("attempt 0 * = BAD_ARG; attempt -1 * = BAD_ARG; attempt 360 * = BAD_ARG;"
                + "attempt MIN * = BAD_ARG; attempt MAX * = BAD_ARG").replace("*", what));
        }
    }

    private static void attemptNumber() {
        for (int what = 0; what < 2; what++) {
            Runs.check("19: NONE if there is none: none at all", "attempt 0 * = NONE; attempt -1 * = NONE; attempt 1 * = NONE".replace("*", "" + what));
            Runs.check("19: NONE if there is none: one is under way", ALL_WAIT + "attempt 0 * = NONE; advance 8 = 9; attempt 1 * = NONE".replace("*", "" + what));
            Runs.refused("19: NONE if there is none", ALL_WAIT + "advance 9 = 10; attempts = 1",
                "attempt -1 * = NONE; attempt 1 * = NONE; attempt 359 * = NONE; attempt 360 * = NONE; attempt MIN * = NONE; attempt MAX * = NONE"
                    .replace("*", "" + what), "advance 30 = 40");
            Runs.check("19: NONE if there is none: behind reset", ALL_WAIT + "advance 9 = 10; reset; attempt 0 * = NONE".replace("*", "" + what));
        }
    }

    private static void attemptAnswers() {
        Runs.check("19: 0 is the first; those that end at the same time in the order above", """
            activity 0 0 2 = 1; activity 1 0 4 = 1; step 4 1 0 0 = 0; step 4 0 0 1 = 1; step 4 0 0 2 = 2; start 0 1 = DONE; advance 4 = 4
            attempts = 3; attempt 0 0 = 1; attempt 0 1 = 2; attempt 1 0 = 0; attempt 1 1 = 4; attempt 2 0 = 2; attempt 2 1 = 4
            """);
    }

    private static void load() {
        for (String a : new String[] {"-1", "4", "5", "MIN", "MAX"}) {
            Runs.check("20: BAD_ARG if a is not 0 to 3, on a new object", "load " + a + " = BAD_ARG");
            Runs.refused("20: BAD_ARG if a is not 0 to 3", ALL_WAIT, "load " + a + " = BAD_ARG", ALL_END);
        }
        for (int a = 0; a < 4; a++) {
            Runs.check("20: The number of attempts of activity a that are under way or ready", """
                load 0 = 0; load 1 = 0; load 2 = 0; load 3 = 0; step 4 * 0 0 = 0; step 4 * 0 1 = 1; start 0 1 = DONE; load * = 2; advance 1 = 1
                load * = 1; advance 1 = 2; load * = 0; load 0 = 0; load 1 = 0; load 2 = 0; load 3 = 0
                """.replace("*", "" + a));
        }
        Runs.check("20: under way or ready: not one that is not ready yet, to the point of time", """
            activity 0 2 2 = 1; activity 0 3 9 = 0; activity 0 4 1 = 0; step 4 0 0 0 = 0; start 0 1 = DONE; load 0 = 1; advance 1 = 1; load 0 = 0
            advance 8 = 9; load 0 = 0; advance 1 = 10; load 0 = 1; advance 1 = 11; load 0 = 0
            """);
        Runs.check("20: as many as there can be", """
            activity 0 0 9 = 1; step 4 0 0 0 = 0; step 4 0 0 1 = 1; step 4 0 0 2 = 2; start 0 1 = DONE; start 1 1 = DONE; start 2 1 = DONE
            load 0 = 9; advance 9 = 9; load 0 = 8; reset; load 0 = 0
            """);
    }

    private static void signals() {
        Runs.check("21: 0 if it was not started", ALL_WAIT + "signals 0 = 1; signals 1 = 1; signals 2 = 1; reset; signals 0 = 0; signals 1 = 0; signals 2 = 0; start 1 5 = WAITING; signals 1 = 0");
        Runs.check("21: came to workflow i and that no step took yet: from none to 6 and back", """
            step 7 0 0 0 = 0; step 10 0 1 1 = 1; step 7 0 0 0 = 2; step 8 1 0 0 = 3; start 0 2 = WAITING; signals 0 = 0; signal 0 0 1 = WAITING; signals 0 = 1
            signal 0 0 2 = WAITING; signal 0 0 3 = WAITING; signal 0 0 4 = WAITING; signal 0 0 5 = WAITING; signal 0 0 6 = WAITING; signals 0 = 6
            signal 0 0 7 = FULL; signals 0 = 6; advance 2 = 2; signals 0 = 5; variable 0 1 = 1; advance 2 = 4; signals 0 = 4; advance 6 = 10
            signals 0 = 1; advance 2 = 12; signals 0 = 0; variable 0 1 = 6; advance 2 = 14; signals 0 = 0; advance 1 = 15; variable 0 1 = -1
            """);
        Runs.check("21: of one that has ended, those that no step took", """
            step 10 0 1 9 = 0; start 0 2 = WAITING; signal 0 1 3 = WAITING; signal 0 1 4 = WAITING; signal 0 0 5 = DONE; signals 0 = 2
            signal 0 1 6 = NONE; signals 0 = 2; signals 1 = 0
            """);
    }

    private static void wrongWorkflows() {
        for (String i : NO_WORKFLOWS) {
            String asks = "result * = 0; variable * 0 = 0; variable * 3 = 0; variable * 4 = 0; variable * -1 = 0; pile * = 0; signals * = 0; waitsAt * = NONE;"
                .replace("*", i);
            Runs.check("22: result, variable, pile, signals: 0 for i not 0 to 2. waitsAt: NONE, on a new object", asks);
            Runs.alike("22: result, variable, pile, signals: 0 for i not 0 to 2. waitsAt: NONE", ALL_WAIT, ALL_WAIT + asks, ALL_END);
            Runs.check("22: result, variable, pile, signals: 0 for i not 0 to 2. waitsAt: NONE, behind the end", ALL_WAIT + ALL_END + ";" + asks);
        }
    }

    private static void filledHandle() {
        for (int h = 0; h < 3; h++) {
            Runs.check("22: A step of kind 4 whose handle has a job already ends the workflow BROKEN and asks for no job", """
                step 6 2 0 0 = 0; step 4 0 0 * = 1; step 4 1 0 * = 2; step 12 0 0 0 = 3; start 1 7 = BROKEN; jobs = 1; load 0 = 1; load 1 = 0
                pile 1 = 1; waitsAt 1 = NONE; result 1 = 0; job 1 0 = NONE; advance 5 = 5; attempts = 1; jobs = 1; state 1 = BROKEN
                """.replace("*", "" + h));
        }
        Runs.check("22: has a job already, as the 31st too", """
            step 4 0 0 0 = 0; step 4 1 0 1 = 1; step 5 1 1 0 = 2; step 1 2 1 0 = 3; step 0 3 29 0 = 4; step 9 2 3 1 = 5; step 4 1 0 0 = 6
            start 0 1 = WAITING; advance 28 = 28; jobs = 30; state 0 = WAITING; advance 1 = 29; state 0 = BROKEN; jobs = 30
            """);
    }
}
