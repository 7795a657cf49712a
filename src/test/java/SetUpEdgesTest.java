/**
 * The boundary cases that promises 1 to 4 name, sentence by sentence: each check bears the words of
 * the document that it holds the class to.
 */
public final class SetUpEdgesTest {
    private static final int[] LEAST = {1, 1, 1, 0, 0, -9, -99};
    private static final int[] MOST = {9, 3, 4, 9, 4, 9, 99};
    /** A program and runs of it that reach all that an activity or a step could change. */
    private static final String PROGRAM = """
        activity 0 0 2 = 1; activity 1 4 1 = 0; step 6 0 0 0 = 0; step 4 0 0 0 = 1; step 10 0 1 3 = 2
        step 3 1 0 2 = 3; step 11 2 0 0 = 4
        """;
    private static final String RUN = """
        start 0 5 = WAITING; advance 2 = 2; start 2 6 = WAITING; advance 2 = 4; state 0 = WAITING; waitsAt 0 = 3
        """;

    private SetUpEdgesTest() {
    }

    public static void main(String[] args) {
        newObject();
        activityNumber();
        activityWhat();
        activityValue();
        activityBusy();
        activityAnswer();
        stepKind();
        stepActivities();
        stepVariables();
        stepHandles();
        stepSignals();
        stepConstants();
        stepNumbers();
        stepTimes();
        stepNotNeeded();
        stepBusy();
        stepFull();
        stepAnswer();
        unstepBusy();
        unstepNone();
        unstepAnswer();
        Runs.end();
    }

    private static void newObject() {
        Runs.check("1: No step", "unstep = NONE");
        Runs.check("1: No step, so a workflow ends at once", "start 0 7 = DONE; result 0 = 0; variable 0 0 = 7; jobs = 0");
        for (int a = 0; a < 4; a++) {
            Runs.check("1: all activities have duration, workers and tries 1, delay and failures 0, ..", """
                activity * 0 1 = 1; activity * 1 1 = 1; activity * 2 1 = 1; activity * 3 0 = 0; activity * 4 0 = 0
                activity * 5 1 = 1; activity * 6 0 = 0
                """.replace("*", "" + a));
            Runs.check("1: so a job takes 1, comes behind the one before, and its result is its input", """
                step 4 * 0 0 = 0; step 3 * 0 1 = 1; step 5 0 2 0 = 2; step 11 1 0 0 = 3; start 0 MAX = WAITING
                load * = 2; advance 1 = 1; attempts = 1; job 0 3 = 1; job 1 2 = 0; state 0 = WAITING
                advance 1 = 2; attempts = 2; state 0 = DONE; result 0 = MAX; variable 0 2 = MAX
                """.replace("*", "" + a));
        }
        Runs.check("1: no workflow is started", """
            state 0 = IDLE; state 1 = IDLE; state 2 = IDLE; signal 0 0 1 = NONE; signal 1 0 1 = NONE; signal 2 0 1 = NONE
            activity 0 0 1 = 1; step 12 0 0 0 = 0; unstep = 0
            start 0 1 = DONE; start 1 1 = DONE; start 2 1 = DONE
            """);
        Runs.alike("1: a new object is as one after reset", "", "reset", PROGRAM + RUN);
    }

    private static void activityNumber() {
        for (String a : new String[] {"-1", "4", "5", "MIN", "MAX"}) {
            for (int what = 0; what < 7; what++) {
                Runs.check("2: a out of its range answers BAD_ARG", "activity " + a + " " + what + " 1 = BAD_ARG");
            }
            Runs.refused("2: a out of its range changes nothing", PROGRAM, "activity " + a + " 0 5 = BAD_ARG", RUN);
        }
        Runs.check("2: the least and the greatest a", "activity 0 0 9 = 1; activity 3 0 9 = 1; activity 0 0 9 = 9; activity 3 0 9 = 9");
    }

    private static void activityWhat() {
        for (String what : new String[] {"-1", "7", "8", "MIN", "MAX"}) {
            for (int a = 0; a < 4; a++) {
                Runs.check("2: what out of its range answers BAD_ARG", "activity " + a + " " + what + " 1 = BAD_ARG");
            }
            Runs.refused("2: what out of its range changes nothing", PROGRAM, "activity 1 " + what + " 1 = BAD_ARG", RUN);
        }
        Runs.check("2: the least and the greatest what", "activity 2 0 2 = 1; activity 2 6 2 = 0; activity 2 0 2 = 2; activity 2 6 2 = 2");
    }

    private static void activityValue() {
        String[] names = {"duration", "workers", "tries", "delay", "failures", "factor (-9 to 9)", "summand (-99 to 99)"};
        for (int what = 0; what < 7; what++) {
            String call = "activity 3 " + what + " ";
            int under = LEAST[what] - 1;
            int over = MOST[what] + 1;
            String bad = call + under + " = BAD_ARG;" + call + over + " = BAD_ARG;"
                + call + "MIN = BAD_ARG;" + call + "MAX = BAD_ARG";
            Runs.check("2: x out of the range of " + names[what] + " answers BAD_ARG", bad);
            Runs.refused("2: x out of the range of " + names[what] + " changes nothing", PROGRAM, bad, RUN);
            Runs.check("2: the least and the greatest " + names[what], call + LEAST[what] + " = " + (what < 3 || what == 5 ? 1 : 0)
                + ";" + call + MOST[what] + " = " + LEAST[what] + ";" + call + LEAST[what] + " = " + MOST[what]);
        }
    }

    private static void activityBusy() {
        for (int i = 0; i < 3; i++) {
            Runs.check("2: BUSY", PROGRAM + "activity 0 0 3 = 2; start " + i
                + " 5 = WAITING; activity 0 0 2 = BUSY; activity 3 6 0 = BUSY");
        }
        Runs.check("2: BUSY if it has ended", "start 1 5 = DONE; activity 0 0 2 = BUSY; advance 100 = 100; activity 0 0 2 = BUSY");
        Runs.check("2: not BUSY behind a refused start, nor behind reset", """
            start 3 5 = BAD_ARG; start -1 5 = BAD_ARG; activity 0 0 2 = 1; advance 5 = 5; activity 0 0 3 = 2
            start 0 5 = DONE; activity 0 0 4 = BUSY; reset; activity 0 0 4 = 3
            """);
        Runs.check("2: tested in this order: BAD_ARG, BUSY", """
            start 0 1 = DONE; activity -1 0 1 = BAD_ARG; activity 4 0 1 = BAD_ARG; activity 0 -1 1 = BAD_ARG
            activity 0 7 1 = BAD_ARG; activity 0 0 0 = BAD_ARG; activity 0 0 10 = BAD_ARG; activity 0 0 1 = BUSY
            """);
        Runs.refused("2: BUSY changes nothing", PROGRAM + "start 0 5 = WAITING", """
            activity 0 0 9 = BUSY; activity 0 1 3 = BUSY; activity 1 2 4 = BUSY; activity 1 3 9 = BUSY
            activity 1 4 0 = BUSY; activity 0 5 -9 = BUSY; activity 0 6 99 = BUSY
            """, "advance 3 = 3; waitsAt 0 = 3; advance 9 = 12; state 0 = UNDONE");
    }

    private static void activityAnswer() {
        for (int what = 0; what < 7; what++) {
            SagaRuns runs = new SagaRuns();
            for (int a = 0; a < 4; a++) {
                runs.activity(a, what, LEAST[what] + a % (MOST[what] - LEAST[what] + 1));
            }
            for (int a = 0; a < 4; a++) {
                for (int other = 0; other < 7; other++) {
                    int first = other < 3 || other == 5 ? 1 : 0;
                    int want = other == what ? LEAST[what] + a % (MOST[what] - LEAST[what] + 1) : first;
                    String call = "activity(" + a + ", " + other + ", ..)";
                    Runs.due("2: what it was, of that a and what alone", call, runs.activity(a, other, MOST[other]), want);
                    Runs.due("2: what it was", call, runs.activity(a, other, MOST[other]), MOST[other]);
                }
            }
        }
        Runs.check("2: what it was is not what a refused call named", """
            activity 0 5 -9 = 1; activity 0 5 -10 = BAD_ARG; activity 0 5 10 = BAD_ARG; activity 0 5 9 = -9
            start 0 0 = DONE; activity 0 5 0 = BUSY; reset; activity 0 5 1 = 9
            """);
    }

    private static void stepKind() {
        for (String kind : new String[] {"-1", "13", "14", "MIN", "MAX"}) {
            String call = "step " + kind + " 0 0 1 = BAD_ARG; step " + kind + " 1 1 1 = BAD_ARG";
            Runs.refused("3: kind out of 0 to 12 answers BAD_ARG and changes nothing", PROGRAM, call, RUN);
        }
        Runs.check("3: the least and the greatest kind", "step 0 0 0 0 = 0; step 12 0 0 0 = 1; start 0 9 = UNDONE; variable 0 0 = 0");
    }

    /** Calls step with x for '*': those least and most are appended, those beyond are refused. */
    private static void range(String words, int least, int most, String... calls) {
        for (String call : calls) {
            String edges = call.replace("*", "" + least) + " = 5;" + call.replace("*", "" + most) + " = 6;unstep = 6;unstep = 5";
            Runs.check("3: " + words + ", " + call, PROGRAM + edges);
            String bad = "";
            for (String x : new String[] {"" + (least - 1), "" + (most + 1), "MIN", "MAX"}) {
                bad += call.replace("*", x) + " = BAD_ARG;";
            }
            Runs.refused("3: " + words + ", beyond it, " + call, PROGRAM, bad, RUN);
        }
    }

    private static void stepActivities() {
        range("activities 0 to 3", 0, 3, "step 3 * 0 0", "step 4 * 0 0", "step 6 * 0 0");
    }

    private static void stepVariables() {
        range("variables 0 to 3", 0, 3, "step 0 * 0 0", "step 1 * 0 0", "step 1 0 * 0", "step 2 * 0 0", "step 2 0 * 0",
            "step 3 0 * 0", "step 3 0 0 *", "step 4 0 * 0", "step 5 0 * 0", "step 6 0 * 0", "step 7 * 0 0",
            "step 9 * 0 0", "step 9 0 * 0", "step 10 0 * 1", "step 11 * 0 0");
    }

    private static void stepHandles() {
        range("handles 0 to 2", 0, 2, "step 4 0 0 *", "step 5 * 0 0");
    }

    private static void stepSignals() {
        range("signals 0 to 1", 0, 1, "step 10 * 0 1");
    }

    private static void stepConstants() {
        range("k of kind 0 from -99 to 99", -99, 99, "step 0 0 * 0");
    }

    private static void stepNumbers() {
        range("step numbers 0 to 19", 0, 19, "step 8 * 0 0", "step 9 0 0 *");
    }

    private static void stepTimes() {
        range("d from 1 to 50", 1, 50, "step 10 0 0 *");
    }

    private static void stepNotNeeded() {
        for (String x : new String[] {"MIN", "-100", "-1", "4", "100", "MAX"}) {
            Runs.check("3: those not needed do not matter", """
                step 0 1 9 * = 0; step 1 0 1 * = 1; step 2 2 0 * = 2; step 4 0 0 1 = 3; step 5 1 3 * = 4; step 6 0 0 * = 5
                step 7 2 * * = 6; step 8 8 * * = 7; step 11 0 * * = 8; start 0 5 = WAITING; advance 1 = 1; state 0 = DONE
                result 0 = 14; variable 0 1 = 9; variable 0 2 = -14; variable 0 3 = 14; pile 0 = 1
                reset; unstep = 8; step 12 * * * = 8; start 0 5 = WAITING; advance 1 = 1; pile 0 = 0; waitsAt 0 = 8
                """.replace("*", x));
        }
    }

    private static void stepBusy() {
        for (int i = 0; i < 3; i++) {
            Runs.refused("3: BUSY", PROGRAM + "start " + i + " 5 = WAITING",
                "step 12 0 0 0 = BUSY; step 0 0 0 0 = BUSY; step 10 0 0 1 = BUSY", "advance 9 = 9");
        }
        Runs.check("3: BUSY if it has ended, but not behind reset", """
            start 2 5 = DONE; step 12 0 0 0 = BUSY; advance 1 = 1; step 12 0 0 0 = BUSY; reset; step 12 0 0 0 = 0
            """);
        Runs.check("3: tested in this order: BAD_ARG, BUSY", """
            start 0 5 = DONE; step 13 0 0 0 = BAD_ARG; step -1 0 0 0 = BAD_ARG; step 0 4 0 0 = BAD_ARG
            step 0 0 100 0 = BAD_ARG; step 3 0 0 4 = BAD_ARG; step 10 0 0 51 = BAD_ARG; step 10 0 0 50 = BUSY
            """);
    }

    private static void stepFull() {
        String full = "";
        for (int k = 0; k < 20; k++) {
            full += "step 0 1 " + k + " 0 = " + k + ";";
        }
        Runs.check("3: 20 steps answers FULL", full + "step 12 0 0 0 = FULL; step 0 0 0 0 = FULL; unstep = 19; unstep = 18");
        Runs.check("3: the 20th is the last that is done", full + "start 0 5 = DONE; result 0 = 0; variable 0 1 = 19");
        Runs.refused("3: FULL changes nothing", full, "step 12 0 0 0 = FULL; step 11 0 0 0 = FULL; step 8 0 0 0 = FULL",
            "start 0 5 = DONE; variable 0 1 = 19");
        Runs.check("3: tested in this order: BAD_ARG, FULL", full + "step 13 0 0 0 = BAD_ARG; step 7 4 0 0 = BAD_ARG; step 7 3 0 0 = FULL");
        Runs.check("3: tested in this order: BUSY, FULL", full + "start 1 0 = DONE; step 7 3 0 0 = BUSY; reset; step 7 3 0 0 = FULL");
        Runs.check("3: no longer FULL behind unstep", full + "unstep = 19; step 11 1 0 0 = 19; step 11 1 0 0 = FULL; start 0 5 = DONE; result 0 = 18");
    }

    private static void stepAnswer() {
        Runs.check("3: its number, which a refused step does not use up", """
            step 7 0 0 0 = 0; step 13 0 0 0 = BAD_ARG; step 7 0 0 0 = 1; step 7 -1 0 0 = BAD_ARG; step 7 0 0 0 = 2
            unstep = 2; unstep = 1; step 7 0 0 0 = 1; start 0 0 = DONE; step 7 0 0 0 = BUSY; reset; step 7 0 0 0 = 2
            """);
    }

    private static void unstepBusy() {
        for (int i = 0; i < 3; i++) {
            Runs.refused("4: BUSY", PROGRAM + "start " + i + " 5 = WAITING", "unstep = BUSY; unstep = BUSY",
                "advance 9 = 9; unstep = BUSY");
        }
        Runs.check("4: tested in this order: BUSY; NONE if there is none", "unstep = NONE; start 0 5 = DONE; unstep = BUSY; reset; unstep = NONE");
    }

    private static void unstepNone() {
        Runs.refused("4: NONE if there is none", "step 12 0 0 0 = 0; unstep = 0", "unstep = NONE; unstep = NONE; unstep = NONE",
            "step 0 0 4 0 = 0; step 11 0 0 0 = 1; start 0 9 = DONE; result 0 = 4");
    }

    private static void unstepAnswer() {
        SagaRuns runs = new SagaRuns();
        for (int k = 0; k < 20; k++) {
            runs.step(0, 1, k, 0);
        }
        for (int left = 19; left >= 0; left--) {
            Runs.due("4: the number of steps that are left", "unstep()", runs.unstep(), left);
            runs.start(0, 0);
            Runs.due("4: takes the last step off", "variable(0, 1)", runs.variable(0, 1), left == 0 ? 0 : left - 1);
            runs.reset();
        }
        Runs.due("4: NONE if there is none", "unstep()", runs.unstep(), SagaRuns.NONE);
    }
}
