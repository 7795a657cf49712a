/**
 * The boundary cases that promises 5 to 9 name, sentence by sentence: each check bears the words of
 * the document that it holds the class to.
 */
public final class CallsEdgesTest {
    private static final String[] NO_WORKFLOWS = {"-1", "3", "4", "MIN", "MAX"};
    /** Started with 0 it ends DONE, above 0 BROKEN, below 0 STUCK when the job of its pile has failed at 1. */
    private static final String ENDS = """
        activity 1 4 1 = 0; step 9 0 1 4 = 0; step 9 1 0 3 = 1; step 11 0 0 0 = 2; step 5 0 0 0 = 3
        step 6 1 0 0 = 4; step 12 0 0 0 = 5
        """;
    /** It ends UNDONE at 3. */
    private static final String UNDOES = """
        activity 2 0 3 = 1; step 6 2 0 0 = 0; step 12 0 0 0 = 1
        """;
    /** It waits in each way that there is: for a job, a time, a signal, and a job of its pile. */
    private static final String WAITS = """
        activity 0 0 2 = 1; activity 0 2 2 = 1; activity 0 3 1 = 0; activity 0 4 1 = 0; activity 3 0 4 = 1
        step 6 3 0 0 = 0; step 4 3 0 1 = 1; step 3 0 0 1 = 2; step 7 0 0 0 = 3; step 10 1 2 9 = 4; step 5 1 3 0 = 5
        step 12 0 0 0 = 6
        """;

    private CallsEdgesTest() {
    }

    public static void main(String[] args) {
        startNumber();
        startBusy();
        startValue();
        startAnswer();
        signalNumbers();
        signalNone();
        signalFull();
        signalOrder();
        signalValue();
        signalAnswer();
        advanceRange();
        advanceAnswer();
        crash();
        reset();
        Runs.end();
    }

    private static void startNumber() {
        for (String i : NO_WORKFLOWS) {
            Runs.refused("5: i not 0 to 2 answers BAD_ARG", WAITS, "start * 0 = BAD_ARG; start * 7 = BAD_ARG".replace("*", i),
                "start 0 1 = WAITING; start 2 2 = WAITING; advance 5 = 5");
        }
        Runs.check("5: the least and the greatest i", "start 0 4 = DONE; start 2 5 = DONE; variable 0 0 = 4; variable 2 0 = 5; state 1 = IDLE");
        Runs.check("5: tested in this order: BAD_ARG, BUSY", """
            start 0 1 = DONE; start 1 1 = DONE; start 2 1 = DONE; start 3 1 = BAD_ARG; start -1 1 = BAD_ARG; start 2 1 = BUSY
            """);
    }

    private static void startBusy() {
        for (int i = 0; i < 3; i++) {
            String again = "start * 9 = BUSY; start * 0 = BUSY".replace("*", "" + i);
            Runs.refused("5: BUSY if it waits", WAITS + "start " + i + " 4 = WAITING; advance 3 = 3", again, "advance 9 = 12");
            Runs.refused("5: BUSY if it takes back", UNDOES + "start " + i + " 4 = WAITING; advance 2 = 2", again, "advance 9 = 11");
            Runs.refused("5: BUSY if it ended DONE", ENDS + "start " + i + " 0 = DONE", again, "advance 9 = 9");
            Runs.refused("5: BUSY if it ended BROKEN", ENDS + "start " + i + " 1 = BROKEN", again, "advance 9 = 9");
            Runs.refused("5: BUSY if it ended STUCK", ENDS + "start " + i + " -1 = WAITING; advance 1 = 1; state " + i + " = STUCK",
                again, "advance 9 = 10");
            Runs.refused("5: BUSY if it ended UNDONE", UNDOES + "start " + i + " -1 = WAITING; advance 3 = 3; state " + i + " = UNDONE",
                again, "advance 9 = 12");
        }
        Runs.check("5: BUSY if it was started, not if another was", ENDS + """
            start 1 0 = DONE; start 1 0 = BUSY; start 0 1 = BROKEN; start 0 1 = BUSY; start 2 -1 = WAITING; start 2 -1 = BUSY
            """);
        Runs.check("5: BUSY if it was started since reset", ENDS + """
            start 1 0 = DONE; start 1 1 = BUSY; reset; start 1 1 = BROKEN; start 1 1 = BUSY; reset; start 1 -1 = WAITING
            """);
        Runs.check("5: a refused start does not make it BUSY", "start 3 0 = BAD_ARG; start 0 0 = DONE; start 0 0 = BUSY");
    }

    private static void startValue() {
        Runs.check("5: starts with x, whatever it is", """
            step 10 0 3 1 = 0; step 11 0 0 0 = 1; start 0 MIN = WAITING; start 1 MAX = WAITING; start 2 0 = WAITING
            variable 0 0 = MIN; variable 1 0 = MAX; variable 2 0 = 0; advance 1 = 1
            result 0 = MIN; result 1 = MAX; result 2 = 0
            """);
    }

    private static void startAnswer() {
        Runs.check("5: otherwise its state", ENDS + "start 0 0 = DONE; start 1 1 = BROKEN; start 2 -1 = WAITING");
        Runs.check("5: otherwise its state, with an empty pile", "step 12 0 0 0 = 0; start 0 0 = UNDONE; start 1 0 = UNDONE");
        Runs.check("5: otherwise its state, not the states of those before it", """
            step 7 0 0 0 = 0; start 0 5 = WAITING; start 1 0 = DONE; start 2 5 = WAITING; state 0 = WAITING; state 1 = DONE
            """);
    }

    private static void signalNumbers() {
        String before = WAITS + "start 0 1 = WAITING; start 1 2 = WAITING; start 2 3 = WAITING; advance 1 = 1";
        String then = "signal 0 1 4 = WAITING; signal 2 0 5 = WAITING; advance 20 = 21; state 0 = UNDONE; waitsAt 1 = 6";
        for (String i : NO_WORKFLOWS) {
            Runs.refused("6: i not 0 to 2 answers BAD_ARG", before, "signal * 0 7 = BAD_ARG; signal * 1 8 = BAD_ARG".replace("*", i), then);
        }
        for (String s : new String[] {"-1", "2", "3", "MIN", "MAX"}) {
            Runs.refused("6: s not 0 or 1 answers BAD_ARG", before, "signal 0 * 7 = BAD_ARG; signal 2 * 8 = BAD_ARG".replace("*", s), then);
        }
        Runs.check("6: the least and the greatest i and s", before + """
            ;signal 0 0 1 = WAITING; signal 0 1 1 = WAITING; signal 2 0 1 = WAITING; signal 2 1 1 = WAITING
            signals 0 = 2; signals 1 = 0; signals 2 = 2
            """);
    }

    private static void signalNone() {
        String tries = "signal 0 0 7 = NONE; signal 0 1 8 = NONE";
        Runs.refused("6: it is not started, answers NONE", WAITS, tries, "start 0 1 = WAITING; signals 0 = 0; advance 30 = 30; variable 0 2 = -1");
        Runs.refused("6: it is not started, answers NONE, though others are", WAITS + "start 1 1 = WAITING; start 2 1 = WAITING",
            tries, "signal 1 1 3 = WAITING; start 0 1 = WAITING; signals 0 = 0; advance 20 = 20");
        Runs.refused("6: it is not started since reset", WAITS + "start 0 1 = WAITING; reset", tries, "start 0 1 = WAITING; signals 0 = 0");
        Runs.refused("6: has ended DONE, answers NONE", ENDS + "start 0 0 = DONE", tries, "advance 5 = 5");
        Runs.refused("6: has ended BROKEN, answers NONE", ENDS + "start 0 1 = BROKEN", tries, "advance 5 = 5");
        Runs.refused("6: has ended STUCK, answers NONE", ENDS + "start 0 -1 = WAITING; advance 1 = 1; state 0 = STUCK", tries, "advance 5 = 6");
        Runs.refused("6: has ended UNDONE, answers NONE", UNDOES + "start 0 0 = WAITING; advance 3 = 3; state 0 = UNDONE", tries, "advance 5 = 8");
        Runs.check("6: one that takes back has not ended yet", UNDOES + """
            start 0 0 = WAITING; advance 2 = 2; signal 0 0 7 = WAITING; signals 0 = 1; advance 1 = 3; signal 0 0 7 = NONE; signals 0 = 1
            """);
    }

    private static void signalFull() {
        String six = """
            step 7 0 0 0 = 0; step 10 0 1 9 = 1; step 10 0 2 9 = 2; start 0 5 = WAITING; start 1 5 = WAITING
            signal 0 0 1 = WAITING; signal 0 1 2 = WAITING; signal 0 0 3 = WAITING; signal 0 1 4 = WAITING
            signal 0 1 5 = WAITING; signal 0 1 6 = WAITING
            """;
        Runs.refused("6: 6 signals came to it since its start answers FULL", six, "signal 0 0 7 = FULL; signal 0 1 8 = FULL",
            "signals 0 = 6; advance 5 = 5; state 0 = DONE; variable 0 1 = 1; variable 0 2 = 3; signals 0 = 4");
        Runs.check("6: 6 signals came to it, others may have as many", six + """
            signals 0 = 6; signal 0 0 7 = FULL; signal 1 0 1 = WAITING; signal 1 0 2 = WAITING; signal 1 0 3 = WAITING
            signal 1 0 4 = WAITING; signal 1 0 5 = WAITING; signal 1 0 6 = WAITING; signal 1 0 7 = FULL; signals 1 = 6
            """);
        Runs.refused("6: 6 signals came to it, though all were taken", """
            step 10 1 1 9 = 0; step 8 0 0 0 = 1; start 0 0 = WAITING; signal 0 1 1 = WAITING; signal 0 1 2 = WAITING
            signal 0 1 3 = WAITING; signal 0 1 4 = WAITING; signal 0 1 5 = WAITING; signal 0 1 6 = WAITING; signals 0 = 0
            """, "signal 0 1 7 = FULL; signal 0 0 7 = FULL", "variable 0 1 = 6; signals 0 = 0; advance 9 = 9; variable 0 1 = -1");
        Runs.refused("6: FULL while it takes back", UNDOES + """
            start 0 0 = WAITING; signal 0 0 1 = WAITING; signal 0 0 1 = WAITING; signal 0 0 1 = WAITING
            signal 0 0 1 = WAITING; signal 0 0 1 = WAITING; signal 0 0 1 = WAITING
            """, "signal 0 0 1 = FULL", "signals 0 = 6; advance 3 = 3; state 0 = UNDONE");
        Runs.check("6: since its start, so none behind reset", six + """
            signal 0 0 7 = FULL; reset; start 0 5 = WAITING; signals 0 = 0; signal 0 0 11 = WAITING; signal 0 0 12 = WAITING
            signal 0 0 13 = WAITING; signal 0 0 14 = WAITING; signal 0 0 15 = WAITING; signals 0 = 5; signal 0 0 16 = WAITING
            signal 0 0 17 = FULL; advance 5 = 5; variable 0 1 = 11; variable 0 2 = 12
            """);
        Runs.check("6: signals that were refused do not count", """
            step 7 0 0 0 = 0; signal 0 0 1 = NONE; start 0 5 = WAITING; signal 0 2 1 = BAD_ARG; signal 0 -1 1 = BAD_ARG
            signal 0 0 1 = WAITING; signal 0 0 1 = WAITING; signal 0 0 1 = WAITING; signal 0 0 1 = WAITING
            signal 0 0 1 = WAITING; signal 0 0 1 = WAITING; signal 0 0 1 = FULL; signals 0 = 6
            """);
    }

    private static void signalOrder() {
        Runs.check("6: tested in this order: BAD_ARG, NONE", """
            signal 3 0 1 = BAD_ARG; signal -1 0 1 = BAD_ARG; signal 0 2 1 = BAD_ARG; signal 0 -1 1 = BAD_ARG; signal 0 1 1 = NONE
            start 0 1 = DONE; signal 0 2 1 = BAD_ARG; signal 0 -1 1 = BAD_ARG; signal 0 1 1 = NONE
            """);
        String six = """
            step 7 0 0 0 = 0; start 0 5 = WAITING; signal 0 0 1 = WAITING; signal 0 0 1 = WAITING; signal 0 0 1 = WAITING
            signal 0 0 1 = WAITING; signal 0 0 1 = WAITING; signal 0 0 1 = WAITING
            """;
        Runs.check("6: tested in this order: BAD_ARG, FULL", six + "signal 0 0 1 = FULL; signal 0 2 1 = BAD_ARG; signal 0 -1 1 = BAD_ARG");
        Runs.check("6: tested in this order: NONE, FULL", six + "signal 0 0 1 = FULL; advance 5 = 5; signal 0 0 1 = NONE");
    }

    private static void signalValue() {
        Runs.check("6: with number x, whatever it is", """
            step 10 0 1 9 = 0; step 11 1 0 0 = 1; start 0 5 = WAITING; start 1 5 = WAITING; start 2 5 = WAITING
            signal 0 0 MIN = DONE; signal 1 0 MAX = DONE; signal 2 0 0 = DONE; result 0 = MIN; result 1 = MAX; result 2 = 0
            """);
    }

    private static void signalAnswer() {
        Runs.check("6: otherwise its state", """
            step 10 1 1 9 = 0; step 9 1 2 4 = 1; step 9 2 1 5 = 2; step 11 1 0 0 = 3; step 12 0 0 0 = 4; step 5 0 0 0 = 5
            start 0 0 = WAITING; start 1 0 = WAITING; start 2 0 = WAITING; signal 0 0 0 = WAITING
            signal 0 1 0 = DONE; signal 1 1 -1 = UNDONE; signal 2 1 1 = BROKEN
            """);
        Runs.check("6: otherwise its state, if it then waits elsewhere", """
            step 10 1 1 9 = 0; step 3 0 1 1 = 1; start 0 0 = WAITING; signal 0 1 7 = WAITING; waitsAt 0 = 1; job 0 1 = 7
            """);
    }

    private static void advanceRange() {
        for (String n : new String[] {"-1", "101", "102", "-100", "MIN", "MAX"}) {
            Runs.refused("7: BAD_ARG if n is not 0 to 100", WAITS + "start 1 2 = WAITING; advance 3 = 3",
                "advance " + n + " = BAD_ARG", "advance 1 = 4; advance 20 = 24; state 1 = UNDONE");
            Runs.check("7: BAD_ARG if n is not 0 to 100, on a new object", "advance " + n + " = BAD_ARG; time = 0");
        }
        Runs.check("7: n may be 0", WAITS + """
            advance 0 = 0; start 1 2 = WAITING; advance 0 = 0; attempts = 0; load 0 = 1; advance 2 = 2; advance 0 = 2; attempts = 1
            load 0 = 0; advance 1 = 3; load 0 = 1; advance 0 = 3; load 0 = 1
            """);
        Runs.alike("7: n may be 0, and nothing is otherwise then", WAITS + "start 1 2 = WAITING; advance 3 = 3",
            WAITS + "start 1 2 = WAITING; advance 0 = 0; advance 3 = 3; advance 0 = 3; advance 0 = 3", "advance 20 = 23");
        Runs.check("7: n may be 1 and 100", "advance 1 = 1; advance 100 = 101; advance 100 = 201; time = 201");
    }

    private static void advanceAnswer() {
        String one = "";
        for (int t = 1; t <= 24; t++) {
            one += "advance 1 = " + t + ";";
        }
        String starts = WAITS + "start 1 2 = WAITING; start 0 1 = WAITING; start 2 3 = WAITING;";
        Runs.alike("7: time goes on by n as n times by 1", starts + "advance 24 = 24", starts + one, "advance 50 = 74");
        Runs.alike("7: time goes on by n in parts", starts + "advance 24 = 24", starts + "advance 7 = 7; advance 0 = 7; advance 17 = 24", "advance 50 = 74");
        SagaRuns runs = new SagaRuns();
        for (int n = 1; n < 512; n++) {
            Runs.due("7: the time then", "advance(100)", runs.advance(100), 100 * n);
        }
        Runs.due("7: the time then, as the last of 512 calls", "time()", runs.time(), 51100);
    }

    private static void crash() {
        String run = WAITS + """
            start 0 1 = WAITING; advance 2 = 2; start 2 3 = WAITING; advance 2 = 4; signal 0 1 9 = WAITING; advance 4 = 8
            signal 0 1 8 = WAITING; signal 2 0 7 = WAITING; advance 1 = 9; advance 5 = 14; advance 3 = 17; start 2 3 = BUSY
            """;
        Runs.alike("8: can't be seen by any other call", run, run.replace(";", ";crash;").replace("\n", ";crash\n"), "advance 30 = 47");
        Runs.alike("8: can't be seen on a new object", "", "crash; crash", WAITS + "start 0 1 = WAITING; advance 20 = 20");
        Runs.alike("8: can't be seen between set-up and start", WAITS, WAITS + "crash", "start 0 1 = WAITING; advance 20 = 20");
        Runs.alike("8: can't be seen behind the end", ENDS + "start 0 0 = DONE; start 1 1 = BROKEN", ENDS + "start 0 0 = DONE; crash; start 1 1 = BROKEN; crash",
            "start 0 0 = BUSY; signal 1 0 0 = NONE; unstep = BUSY; start 2 -1 = WAITING; advance 1 = 1; state 2 = STUCK");
        Runs.alike("8: can't be seen behind reset", WAITS + "start 0 1 = WAITING; reset", WAITS + "start 0 1 = WAITING; crash; reset; crash",
            "start 0 1 = WAITING; advance 20 = 20");
        for (int t = 0; t <= 26; t++) {
            String starts = WAITS + "start 0 1 = WAITING; start 1 2 = WAITING; signal 0 1 5 = WAITING; advance " + t + " = " + t;
            Runs.alike("8: can't be seen at any time", starts, starts + "; crash", "advance 40 = " + (t + 40));
        }
    }

    private static void reset() {
        Runs.alike("9: of an object that has nothing", "", "reset; reset", WAITS + "start 0 1 = WAITING; advance 20 = 20");
        Runs.alike("9: steps and activities stay", WAITS, WAITS + "reset; reset", "start 0 1 = WAITING; advance 20 = 20");
        Runs.alike("9: time is 0", WAITS, WAITS + "advance 100 = 100; reset; time = 0", "start 0 1 = WAITING; advance 20 = 20");
        for (int t = 0; t <= 26; t++) {
            Runs.alike("9: no workflow is started, no job was asked for, time is 0", WAITS, WAITS + """
                start 0 1 = WAITING; start 1 2 = WAITING; start 2 MAX = WAITING; signal 0 1 5 = WAITING; signal 1 0 6 = WAITING
                advance * = *; reset
                """.replace("*", "" + t), "start 0 3 = WAITING; signal 0 1 8 = WAITING; advance 9 = 9; start 1 4 = WAITING; advance 9 = 18");
        }
        Runs.alike("9: behind every end", ENDS, ENDS + """
            start 0 0 = DONE; start 1 1 = BROKEN; start 2 -1 = WAITING; advance 1 = 1; state 2 = STUCK; reset
            """, "start 2 0 = DONE; start 0 1 = BROKEN; start 1 -1 = WAITING; advance 2 = 2; state 1 = STUCK");
        Runs.alike("9: behind every limit", "step 4 0 0 0 = 0; step 5 0 1 0 = 1; step 8 0 0 0 = 2", """
            step 4 0 0 0 = 0; step 5 0 1 0 = 1; step 8 0 0 0 = 2; start 0 1 = WAITING; start 1 1 = WAITING; start 2 1 = WAITING
            signal 0 0 1 = WAITING; signal 0 0 1 = WAITING; signal 0 0 1 = WAITING; signal 0 0 1 = WAITING; signal 0 0 1 = WAITING
            signal 0 0 1 = WAITING; signal 0 0 1 = FULL; advance 100 = 100; jobs = 90; state 0 = BROKEN; state 2 = BROKEN; reset
            """, "start 0 1 = WAITING; advance 29 = 29; jobs = 30; signal 0 0 2 = WAITING; state 0 = WAITING");
        Runs.check("9: steps that were done before it do not count", """
            step 0 1 1 0 = 0; step 1 0 1 0 = 1; step 8 1 0 0 = 2; start 0 0 = BROKEN; variable 0 0 = 100; reset; start 0 0 = BROKEN
            variable 0 0 = 100; start 1 0 = BROKEN; start 2 0 = BROKEN; reset; start 2 0 = BROKEN; variable 2 0 = 100
            """);
        Runs.alike("9: an open handle is empty again", "step 4 0 0 0 = 0; step 4 0 0 1 = 1; step 4 0 0 2 = 2", """
            step 4 0 0 0 = 0; step 4 0 0 1 = 1; step 4 0 0 2 = 2; start 0 1 = DONE; start 1 1 = DONE; start 2 1 = DONE; jobs = 9; reset
            """, "start 0 1 = DONE; start 1 1 = DONE; start 2 1 = DONE; jobs = 9; advance 9 = 9; attempts = 9");
        Runs.check("9: activity, step and unstep are no longer BUSY", WAITS + """
            start 0 1 = WAITING; activity 0 0 9 = BUSY; step 12 0 0 0 = BUSY; unstep = BUSY; reset
            activity 0 0 9 = 2; step 12 0 0 0 = 7; unstep = 7; unstep = 6
            """);
    }
}
