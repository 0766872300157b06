/** Terms: PARTS, POINTS, MODES, TIMES, and the AGE in CYCLES. */
public final class TermsPartsTest {
    private static final String WITH_EDGES = "part(0, 9, 1) 1; edge(1, 0, 2) 1; edge(1, 2, 2) 1";
    private static final String[] TIMED = {"point(1, 2, %s) %d", "cycle(%s) %d", "answer(0, 10, %s) %d", "outer(%s) %d"};
    private static final int ANSWER = 2;
    private static final int[] DUE_IN_TIME = {0, 0, 1, 1};
    private static final int[] DUE_FAR_OFF = {0, 0, 1, 0};

    public static void main(String[] args) {
        partsAreNumberedFromOne();
        partsAreTwentyAtMost();
        partsHaveTheirOwnLeastMostAndSpan();
        pointsAreOneToThirty();
        pointOneIsTheAliveOne();
        modesAreZeroToThree();
        edgesAreOfTheirMode();
        deadlinesAreOfTheirMode();
        timesBeginWithZero();
        timesEndWithTwoToTheSixty();
        timesNeverGoBack();
        refusedTimesAreNotTold();
        timesStay();
        ageCountsFromTheBeginning();
        ageCountsFromAReset();
        Due.end();
    }

    private static Run withParts(String title, int n) {
        Run run = new Run(title);
        for (int i = 1; i <= n; i++) {
            run.due("part(0, 9, 1) %d", i);
        }
        return run;
    }

    private static void partsAreNumberedFromOne() {
        for (int n = 0; n <= 20; n++) {
            Run run = withParts(n + " parts", n);
            for (int no : new int[] {Integer.MIN_VALUE, -1, 0, n + 1, Integer.MAX_VALUE}) {
                run.due("state(%d) -1; edge(%d, 0, 1) -1; point(%d, 1, 0) -1", no, no, no);
                run.due("deadline(%d, 1, 1, 0, 0) -1; tolerance(%d, 0) %d", no, no, no == 0 ? 1 : -1);
            }
            for (int i = 1; i <= n; i++) {
                run.due("state(%d) 0; edge(%d, 0, 1) 1; deadline(%d, 1, 1, 0, 0) 1", i, i, i);
                run.due("tolerance(%d, 0) 1; point(%d, 1, 0) 0", i, i);
            }
        }
    }

    private static void partsAreTwentyAtMost() {
        withParts("20 parts", 20).due("part(0, 9, 1) -4 *3; state(20) 0; state(21) -1");
        withParts("19 parts", 19).due("state(20) -1; part(0, 9, 1) 20; part(0, 9, 1) -4; state(20) 0");
        withParts("20 parts stay", 20).due("reset(0) 1; part(0, 9, 1) -4; mode(1) 0; part(0, 9, 1) -4; state(20) 0");
    }

    private static void partsHaveTheirOwnLeastMostAndSpan() {
        Run.of("three parts", "part(0, 0, 3) 1; part(1, 1, 3) 2; part(1, 1, 4) 3",
                "tolerance(1, 9) 1; tolerance(2, 9) 1; tolerance(3, 9) 1",
                "cycle(0) 0 *2; cycle(0) 1; state(1) 0; state(2) 1; state(3) 0",
                "cycle(0) 1; state(1) 0; state(2) 0; state(3) 1");
        Run.of("counts of their own", "part(1, 1, 3) 1; part(1, 1, 3) 2; tolerance(1, 9) 1; tolerance(2, 9) 1",
                "edge(1, 0, 1) 1; point(1, 1, 0) 0; cycle(0) 0 *2; cycle(0) 1; state(1) 0; state(2) 1");
    }

    private static void pointsAreOneToThirty() {
        for (int p : new int[] {Integer.MIN_VALUE, -1, 0, 31, 32, 33, 62, Integer.MAX_VALUE}) {
            Run run = withParts("no point " + p, 1).due("point(1, %d, 0) -2; edge(1, 1, %d) -2", p, p);
            run.due("deadline(1, %d, 1, 0, 0) -2; deadline(1, 1, %d, 0, 0) -2", p, p);
            run.due("edge(1, %d, 1) %d; state(1) 0; deadline(1, 1, 1, 0, 0) 1", p, p == 0 ? 1 : -2);
        }
        for (int p = 1; p <= 30; p++) {
            Run run = withParts("point " + p, 1).due("edge(1, 0, %d) 1; edge(1, %d, 1) 1; edge(1, %d, 30) 1", p, p, p);
            run.due("deadline(1, %d, 1, 0, 0) 1; deadline(1, 1, %d, 0, 0) 2", p, p);
            run.due("point(1, %d, 0) 0; point(1, 30, 0) 0", p);
        }
    }

    private static void pointOneIsTheAliveOne() {
        for (int p = 1; p <= 30; p++) {
            Run run = Run.of("alive or not: " + p, "part(1, 1, 3) 1; tolerance(1, 1) 1");
            run.due("edge(1, 0, %d) 1; point(1, %d, 0) 0; cycle(0) 0 *2; cycle(0) %d", p, p, p == 1 ? 0 : 1);
        }
    }

    private static void modesAreZeroToThree() {
        for (int m : new int[] {Integer.MIN_VALUE, -1, 4, Integer.MAX_VALUE}) {
            new Run("no mode " + m).due("mode(%d) -2; mode(2) 0; mode(%d) -2; mode(2) 2", m, m);
        }
        for (int m = 0; m <= 3; m++) {
            new Run("mode " + m).due("mode(%d) 0; mode(%d) %d; mode(0) %d", m, m, m, m);
        }
    }

    private static void edgesAreOfTheirMode() {
        for (int told = 0; told <= 3; told++) {
            for (int m = 0; m <= 3; m++) {
                Run run = new Run("an edge of mode " + told + " in mode " + m);
                run.due("part(0, 9, 1) 1; mode(%d) 0; edge(1, 0, 2) 1; mode(%d) %d", told, m, told);
                run.due("point(1, 2, 0) %d; edge(1, 0, 2) %d", m == told ? 0 : 2, m == told ? 0 : 1);
            }
        }
    }

    private static void deadlinesAreOfTheirMode() {
        for (int told = 0; told <= 3; told++) {
            for (int m = 0; m <= 3; m++) {
                int due = m == told ? 1 : 0;
                withDeadline(told, m, "too soon").due("point(1, 3, 4) 0; cycle(4) %d", due);
                withDeadline(told, m, "in time").due("point(1, 3, 5) 0; cycle(20) 0");
                withDeadline(told, m, "never").due("cycle(9) 0; cycle(10) %d", due);
            }
        }
    }

    private static Run withDeadline(int told, int m, String when) {
        Run run = new Run("a deadline of mode " + told + " in mode " + m + ", " + when);
        run.due("part(0, 9, 1) 1; tolerance(1, 9) 1; mode(%d) 0; deadline(1, 2, 3, 5, 9) 1", told);
        return run.due("mode(%d) %d; edge(1, 0, 2) 1; edge(1, 2, 3) 1; point(1, 2, 0) 0", m, told);
    }

    private static void timesBeginWithZero() {
        for (int i = 0; i < TIMED.length; i++) {
            Run run = Run.of("times at first", WITH_EDGES).due(TIMED[i], "-1", -2).due(TIMED[i], "long.min", -2);
            run.due(TIMED[i], "int.min", -2).due(TIMED[i], "0", DUE_IN_TIME[i]);
        }
    }

    private static void timesEndWithTwoToTheSixty() {
        for (int i = 0; i < TIMED.length; i++) {
            Run run = Run.of("the last time", WITH_EDGES).due(TIMED[i], "2^60+1", -2).due(TIMED[i], "long.max", -2);
            run.due(TIMED[i], "2^61", -2).due(TIMED[i], "2^60", DUE_FAR_OFF[i]).due(TIMED[i], "2^60+1", -2);
            run.due(TIMED[i], "2^60-1", -2).due(TIMED[i], "0", -2);
        }
    }

    /** A second step 0 is WRONG, all other pairs of these calls bear one another. */
    private static int dueBehind(int told, int i) {
        return told == ANSWER && i == ANSWER ? 0 : DUE_IN_TIME[i];
    }

    private static void timesNeverGoBack() {
        for (int told = 0; told < TIMED.length; told++) {
            for (int i = 0; i < TIMED.length; i++) {
                Run run = Run.of("times of calls " + told + " and " + i, WITH_EDGES).due(TIMED[told], "10", DUE_IN_TIME[told]);
                run.due(TIMED[i], "9", -2).due(TIMED[i], "0", -2).due(TIMED[i], "-1", -2);
                run.due(TIMED[i], "10", dueBehind(told, i)).due(TIMED[i], "9", -2);
            }
        }
    }

    private static void refusedTimesAreNotTold() {
        for (int told = 0; told < TIMED.length; told++) {
            for (int i = 0; i < TIMED.length; i++) {
                Run run = Run.of("refused time of " + told + ", then " + i, WITH_EDGES).due(TIMED[told], "2^60+1", -2);
                run.due("point(1, 31, 50) -2; point(2, 2, 50) -1; answer(4, 10, 50) -2; answer(-1, 10, 50) -2");
                run.due(TIMED[told], "5", DUE_IN_TIME[told]).due(TIMED[told], "4", -2);
                run.due(TIMED[i], "5", dueBehind(told, i)).due(TIMED[i], "4", -2);
            }
        }
    }

    private static void timesStay() {
        Run.of("behind a reset", "cycle(50) 0; reset(0) 1; cycle(49) -2; outer(49) -2; answer(0, 10, 49) -2",
                "part(0, 9, 1) 1; point(1, 1, 49) -2; cycle(50) 0");
        Run.of("behind a change of the mode", "cycle(50) 0; mode(1) 0; cycle(49) -2; cycle(50) 0");
        Run.of("of more than 32 bits", "cycle(2^32+5) 0; cycle(6) -2; cycle(2^32+4) -2; cycle(2^32+5) 0; reset(5) 2");
    }

    private static void ageCountsFromTheBeginning() {
        Run.of("as many cycles as an object can have", "reset(5) 0; part(0, 9, 100) 1; cycle(0) 0 *509; reset(5) 509");
        Run.of("other calls are no cycles", WITH_EDGES, "point(1, 2, 0) 0; answer(0, 10, 0) 1; outer(0) 1; mode(1) 0",
                "reset(5) 0; cycle(0) 0; reset(5) 1; mode(1) 1; mode(2) 1; reset(5) 1; cycle(-1) -2; reset(5) 1");
    }

    private static void ageCountsFromAReset() {
        Run.of("asked", "cycle(0) 0 *7; reset(5) 7; reset(0) 1; reset(5) 0; cycle(0) 0; reset(5) 1");
        Run.of("by the outer watch", "cycle(101) 0 *3; outer(101) 0; reset(5) 0; cycle(101) 0; reset(5) 1");
        Run.of("by answers", "cycle(0) 0 *3; answer(3, 3, 0) 0 *8; reset(5) 0; cycle(0) 0; reset(5) 1");
        Run.of("by a cycle, which is not counted", "part(0, 9, 1) 1; cycle(0) 0 *3; point(1, 1, 0) 2; cycle(0) 3",
                "reset(5) 0; cycle(0) 0; reset(5) 1");
        Run.of("a span from a reset on", "part(1, 1, 4) 1; tolerance(1, 9) 1; cycle(0) 0 *2; reset(0) 1",
                "cycle(0) 0 *3; cycle(0) 1; reset(5) 4");
    }
}
