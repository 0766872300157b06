/** Terms: a RESET, of each of its four reasons: what it keeps, and what begins anew. */
public final class TermsResetTest {
    /** Part 1 is watched in modes 0 and 1; part 2 has no edge, and EXPIRES by any point. */
    private static final String PARTS = "part(1, 1, 3) 1; part(0, 9, 100) 2; tolerance(1, 1) 1; mode(1) 0; edge(1, 0, 5) 1"
            + "; edge(1, 5, 6) 1; deadline(1, 5, 6, 5, 9) 1; mode(0) 1; edge(1, 0, 1) 1; edge(1, 1, 1) 1; edge(1, 1, 2) 1"
            + "; edge(1, 2, 1) 1; deadline(1, 1, 2, 5, 9) 2;";

    /** Each makes one RESET at the time 200, if the outer watch was told at 99 at the latest. */
    private static final String[] CAUSES = {"",
        "point(2, 29, 200) 2; cycle(200) 3;",
        "answer(3, 99, 200) 0 *8;",
        "outer(200) 0;",
        "point(2, 29, 200) 2; reset(0) 1;"};

    public static void main(String[] args) {
        for (int reason = 1; reason <= 4; reason++) {
            numberAndReason(reason);
            statesAreOk(reason);
            failuresAreGone(reason);
            countsAreGone(reason);
            flawsAreGone(reason);
            runningDeadlinesAreGone(reason);
            pointsBeforeAreGone(reason);
            modeAndAgeAreZero(reason);
            questionBeginsAnew(reason);
            outerWatchBeginsAnew(reason);
            partsAndEdgesStay(reason);
            deadlinesStay(reason);
            tolerancesStay(reason);
            timesStay(reason);
            expiredCyclesBeginAnew(reason);
        }
        reasonsOneBehindTheOther();
        askingIsNoReset();
        Due.end();
    }

    private static Run around(int reason, String what, String before, String behind) {
        return Run.of("RESET " + reason + ", " + what, PARTS, before, CAUSES[reason], behind);
    }

    private static void numberAndReason(int reason) {
        around(reason, "number and reason", "reset(1) 0; reset(2) 0", "reset(1) 1").due("reset(2) %d", reason);
        if (reason != 4) {
            around(reason, "the second", "reset(0) 1; reset(2) 4", "").due("reset(1) 2; reset(2) %d", reason);
        }
    }

    private static void statesAreOk(int reason) {
        around(reason, "FAILED", "point(1, 1, 0) 0; point(1, 2, 1) 0; cycle(1) 1; state(1) 1", "state(1) 0; "
                + "state(2) 0; cycle(200) 0");
        around(reason, "EXPIRED", "tolerance(0, 9) 1; point(1, 9, 0) 2; tolerance(0, 0) 1; state(1) 2", "state(1) 0; "
                + "state(2) 0; cycle(200) 0");
    }

    private static void failuresAreGone(int reason) {
        around(reason, "failures", "point(1, 1, 0) 0; point(1, 2, 1) 0; cycle(1) 1",
                "point(1, 1, 200) 0; point(1, 2, 201) 0; cycle(201) 1; state(1) 1; cycle(201) 0; state(1) 0");
    }

    private static void countsAreGone(int reason) {
        around(reason, "counts, then one", "point(1, 1, 195) 0", "point(1, 1, 200) 0; point(1, 2, 205) 0; "
                + "cycle(205) 0 *3; state(1) 0");
        around(reason, "counts, then none", "point(1, 1, 195) 0", "cycle(200) 0 *2; cycle(200) 1; state(1) 1");
    }

    private static void flawsAreGone(int reason) {
        around(reason, "flaws", "point(1, 1, 0) 0; point(1, 2, 1) 0", "cycle(200) 0; state(1) 0");
    }

    private static void runningDeadlinesAreGone(int reason) {
        around(reason, "deadlines, late", "point(1, 1, 195) 0", "cycle(250) 0; state(1) 0");
        around(reason, "deadlines, ended", "edge(1, 0, 2) 1; point(1, 1, 195) 0", "point(1, 2, 250) 0; cycle(250) 0; state(1) 0");
    }

    private static void pointsBeforeAreGone(int reason) {
        around(reason, "points before, none", "point(1, 1, 195) 0", "point(1, 2, 200) 2");
        around(reason, "points before, the first", "point(1, 1, 195) 0; point(1, 2, 200) 0", "point(1, 1, 200) 0; "
                + "point(1, 1, 200) 0");
        around(reason, "points before, of an EXPIRED part", "tolerance(0, 9) 1; point(1, 9, 0) 2; "
                + "tolerance(0, 0) 1", "point(1, 1, 200) 0");
    }

    private static void modeAndAgeAreZero(int reason) {
        around(reason, "mode", "mode(3) 0", "mode(0) 0; edge(1, 1, 2) 0; edge(1, 5, 6) 1");
        around(reason, "mode, then another", "mode(1) 0", "mode(1) 0; edge(1, 5, 6) 0; edge(1, 1, 2) 1");
        around(reason, "AGE", "cycle(0) 0 *2", "reset(5) 0; cycle(200) 0; reset(5) 1; cycle(200) 0; cycle(200) 1; reset(5) 3");
    }

    private static void questionBeginsAnew(int reason) {
        String round = "answer(0, 10, 10) 1; answer(1, 9, 10) 1; answer(2, 12, 10) 1; answer(3, 3, 10) 1; reset(3) 3";
        around(reason, "q", round, "reset(3) 0; answer(0, 10, 200) 1; answer(1, 9, 200) 1");
        around(reason, "step", "answer(0, 10, 0) 1; answer(1, 9, 0) 1", "answer(0, 10, 200) 1; answer(1, 9, 200) 1; reset(4) 0");
        around(reason, "step, then the old one", "answer(0, 10, 0) 1; answer(1, 9, 0) 1", "answer(2, 12, 200) 0; reset(4) 1");
        if (reason != 2) {
            around(reason, "errors", "answer(3, 99, 0) 0 *7; reset(4) 7", "reset(4) 0; answer(3, 99, 200) 0 *7; "
                    + "reset(4) 7; reset(1) 1");
        } else {
            around(reason, "errors", "", "reset(4) 0; answer(3, 99, 200) 0 *7; reset(4) 7; reset(1) 1");
        }
        for (int t : new int[] {0, 9, 10, 50, 51}) {
            around(reason, "the question's time", "", "").due("answer(0, 10, %d) 1; answer(1, 9, %d) 1; "
                    + "answer(2, 12, %d) 1; answer(3, 3, %d) %d",
                    200 + t, 200 + t, 200 + t, 200 + t, t >= 10 && t <= 50 ? 1 : 0);
        }
    }

    private static void outerWatchBeginsAnew(int reason) {
        around(reason, "outer watch, 100", "outer(90) 1", "outer(300) 1; reset(1) 1");
        around(reason, "outer watch, 101", "outer(90) 1", "outer(301) 0; reset(1) 2; reset(2) 3");
    }

    private static void partsAndEdgesStay(int reason) {
        around(reason, "parts", "", "state(1) 0; state(2) 0; state(3) -1; part(0, 9, 1) 3");
        around(reason, "edges", "", "edge(1, 0, 1) 0; edge(1, 1, 1) 0; edge(1, 1, 2) 0; edge(1, 2, 1) 0; "
                + "edge(1, 0, 5) 1; mode(1) 0"
                + "; edge(1, 0, 5) 0; edge(1, 5, 6) 0; edge(1, 0, 1) 1");
        around(reason, "no edges are made", "", "edge(2, 0, 29) 1; edge(1, 2, 2) 1; edge(1, 0, 2) 1");
        around(reason, "least, most and span", "", "point(1, 1, 200) 0; point(1, 2, 205) 0; cycle(205) 0 *3; "
                + "cycle(205) 0 *2; cycle(205) 1");
    }

    private static void deadlinesStay(int reason) {
        around(reason, "how many deadlines", "", "deadline(1, 1, 2, 0, 0) 3; deadline(2, 1, 2, 0, 0) 1");
        around(reason, "a deadline of mode 0", "", "point(1, 1, 200) 0; point(1, 2, 204) 0; cycle(204) 1");
        around(reason, "a deadline of mode 1", "", "mode(1) 0; point(1, 5, 200) 0; cycle(209) 0; cycle(210) 1");
    }

    private static void tolerancesStay(int reason) {
        around(reason, "a part's tolerance", "", "point(1, 1, 200) 0; cycle(210) 1; point(1, 1, 210) 1; cycle(220) 3");
        if (reason == 1) {
            Run.of("RESET 1, the global tolerance", PARTS, "tolerance(0, 1) 1; point(2, 29, 200) 2; cycle(200) 2; "
                    + "cycle(200) 3; cycle(200) 0",
                    "point(2, 29, 200) 2; cycle(200) 2; cycle(200) 3; reset(1) 2");
        } else {
            around(reason, "the global tolerance", "tolerance(0, 1) 1", "point(2, 29, 200) 2; cycle(200) 2; "
                    + "cycle(200) 3; reset(1) 2");
        }
    }

    private static void timesStay(int reason) {
        around(reason, "told times", "", "cycle(199) -2; outer(199) -2; answer(0, 10, 199) -2; point(1, 1, 199) -2; "
                + "cycle(200) 0");
    }

    /** The row of cycles for the global tolerance is not among what a RESET keeps. */
    private static void expiredCyclesBeginAnew(int reason) {
        around(reason, "the row of cycles", "tolerance(0, 2) 1; point(1, 9, 0) 2; cycle(0) 2 *2", "point(2, 29, 200) 2; "
                + "cycle(200) 2 *2; cycle(200) 3; reset(1) 2; reset(2) 1");
    }

    private static void reasonsOneBehindTheOther() {
        Run.of("all reasons", PARTS, "reset(2) 0; outer(101) 0; reset(2) 3; answer(3, 99, 101) 0 *8; reset(2) 2; "
                + "reset(0) 3; reset(2) 4",
                "point(2, 1, 101) 2; cycle(101) 3; reset(2) 1; reset(1) 4; reset(0) 5; reset(0) 6; reset(1) 6; reset(2) 4");
        Run run = new Run("as many as an object can have");
        for (int i = 1; i <= 510; i++) {
            run.due("reset(0) %d", i);
        }
        run.due("reset(1) 510; reset(2) 4");
    }

    private static void askingIsNoReset() {
        String asked = "reset(1) 0; reset(2) 0; reset(3) 0; reset(4) 1; reset(5) 1; reset(-1) -2; reset(6) -2; "
                + "reset(int.min) -2; reset(int.max) -2;";
        Run.of("asked", PARTS, "mode(1) 0; answer(1, 0, 5) 0; cycle(5) 0; point(2, 1, 5) 2; point(1, 5, 5) 0; "
                + "answer(0, 10, 5) 1;", asked, asked,
                "mode(1) 1; state(2) 2; answer(1, 9, 5) 1; point(1, 6, 9) 0; tolerance(0, 9) 1; cycle(9) 2; "
                + "state(1) 1; outer(100) 1");
    }
}
