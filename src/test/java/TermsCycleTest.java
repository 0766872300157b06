/** Terms: a CYCLE at a time. */
public final class TermsCycleTest {
    private static final String ALIVE = "tolerance(1, 100) 1; edge(1, 0, 1) 1; edge(1, 1, 1) 1;";
    private static final String EDGES = "part(0, 1000, 100) 1; tolerance(1, 100) 1; edge(1, 0, 2) 1; edge(1, 2, 2) 1; "
            + "edge(1, 2, 3) 1;";

    public static void main(String[] args) {
        lateDeadlines();
        lateDeadlinesRunNoMore();
        severalLateDeadlines();
        multiplesOfTheSpan();
        countsFromLeastToMost();
        youngCountsAreNotLookedAt();
        youngDeadlinesAreLookedAt();
        countsBeginAgain();
        flawsOfOneCycleAreOneFailure();
        flawsAreSinceTheCycleBefore();
        expiredPartsAreLeftOut();
        partsToldLater();
        refusedCyclesChangeNothing();
        Due.end();
    }

    private static void lateDeadlines() {
        long[][] limits = {{0, 0}, {0, 1}, {5, 9}, {9, 9}, {0, 100000}, {100000, 100000}};
        for (long[] l : limits) {
            Run run = new Run("most " + l[1]).due(EDGES).due("deadline(1, 2, 3, %d, %d) 1; point(1, 2, 7) 0", l[0], l[1]);
            run.due("cycle(7) 0; cycle(%d) 0; cycle(%d) 0; cycle(%d) 1", 7 + l[1], 7 + l[1], 8 + l[1]);
            Run late = new Run("most " + l[1]).due(EDGES).due("deadline(1, 2, 3, %d, %d) 1; point(1, 2, 7) 0", l[0], l[1]);
            late.due("cycle(%d) 1; state(1) 1", (1L << 32) + 7 + l[1]);
        }
        Run.of("the last time", EDGES, "deadline(1, 2, 3, 0, 100000) 1; point(1, 2, 0) 0; cycle(2^60) 1");
        Run.of("below its least it just runs on", EDGES, "deadline(1, 2, 3, 5, 9) 1; point(1, 2, 0) 0; cycle(1) 0; cycle(4) 0",
                "point(1, 3, 5) 0; cycle(5) 0");
        Run.of("a cycle does not begin it anew", EDGES, "deadline(1, 2, 3, 5, 9) 1; point(1, 2, 0) 0; cycle(6) 0; "
                + "point(1, 3, 9) 0",
                "cycle(9) 0; reset(0) 1; point(1, 2, 20) 0; cycle(26) 0; point(1, 3, 30) 0; cycle(30) 1");
    }

    private static void lateDeadlinesRunNoMore() {
        Run.of("a flaw once", EDGES, "deadline(1, 2, 3, 5, 9) 1; point(1, 2, 0) 0; cycle(10) 1; cycle(11) 0; cycle(500) 0");
        Run.of("its end comes later", EDGES, "deadline(1, 2, 3, 5, 9) 1; point(1, 2, 0) 0; cycle(10) 1; "
                + "point(1, 3, 11) 1; cycle(11) 0");
        Run.of("it begins anew", EDGES, "deadline(1, 2, 3, 5, 9) 1; point(1, 2, 0) 0; cycle(10) 1; point(1, 2, 12) 1; "
                + "cycle(21) 0",
                "cycle(22) 1");
    }

    private static void severalLateDeadlines() {
        Run.of("late one behind the other", EDGES, "deadline(1, 2, 3, 0, 9) 1; deadline(1, 2, 3, 0, 19) 2; point(1, 2, 0) 0",
                "cycle(9) 0; cycle(10) 1; cycle(19) 0; cycle(20) 1; cycle(20) 0");
        Run.of("late at once are one failure", EDGES, "deadline(1, 2, 3, 0, 9) 1; deadline(1, 2, 3, 0, 8) 2; point(1, 2, 0) 0",
                "cycle(10) 1; cycle(10) 0");
    }

    private static void multiplesOfTheSpan() {
        for (int span : new int[] {1, 2, 3, 4, 5, 50, 99, 100}) {
            Run run = new Run("a span of " + span).due("part(1, 1, %d) 1; tolerance(1, 100) 1", span);
            int failures = 0;
            for (int age = 1; age <= 202 && failures < 100; age++) {
                boolean flaw = age > 2 && age % span == 0;
                failures = flaw ? failures + 1 : Math.max(failures - 1, 0);
                run.due("cycle(0) %d", failures > 0 ? 1 : 0);
            }
        }
    }

    private static void countsFromLeastToMost() {
        int[][] limits = {{0, 0}, {0, 1}, {1, 1}, {2, 4}, {3, 3}, {0, 1000}, {5, 1000}, {1000, 1000}};
        for (int[] l : limits) {
            for (int n : new int[] {0, 1, 2, 3, 4, 5, 6}) {
                Run run = new Run(n + " of " + l[0] + " to " + l[1]).due("part(%d, %d, 3) 1", l[0], l[1]).due(ALIVE);
                for (int i = 0; i < n; i++) {
                    run.due("point(1, 1, 0) 0");
                }
                int due = n < l[0] || n > l[1] ? 1 : 0;
                run.due("cycle(0) 0 *2; cycle(0) %d; state(1) %d", due, due);
            }
        }
    }

    private static void youngCountsAreNotLookedAt() {
        Run.of("too few, a span of 1", "part(1, 1, 1) 1;", ALIVE, "cycle(0) 0 *2; cycle(0) 1; cycle(0) 1");
        Run.of("too few, a span of 2", "part(1, 1, 2) 1;", ALIVE, "cycle(0) 0 *3; cycle(0) 1");
        Run.of("too many, a span of 1", "part(0, 0, 1) 1;", ALIVE, "point(1, 1, 0) 0; cycle(0) 0; point(1, 1, 0) 0; cycle(0) 0",
                "point(1, 1, 0) 0; cycle(0) 1");
        Run.of("too many, a span of 2", "part(0, 0, 2) 1;", ALIVE, "point(1, 1, 0) 0 *3; cycle(0) 0 *4; "
                + "point(1, 1, 0) 0; cycle(0) 0; cycle(0) 1");
        Run.of("behind a reset again", "part(1, 1, 1) 1;", ALIVE, "cycle(0) 0 *2; cycle(0) 1; reset(0) 1; "
                + "cycle(0) 0 *2; cycle(0) 1");
        Run.of("a change of the mode makes none young", "part(1, 1, 1) 1;", ALIVE, "cycle(0) 0 *2; mode(1) 0; cycle(0) 1");
    }

    private static void youngDeadlinesAreLookedAt() {
        Run.of("at AGE 1", EDGES, "deadline(1, 2, 3, 0, 9) 1; point(1, 2, 0) 0; cycle(10) 1; reset(5) 1");
        Run.of("at AGE 2", EDGES, "deadline(1, 2, 3, 0, 9) 1; point(1, 2, 0) 0; cycle(9) 0; cycle(10) 1; reset(5) 2");
        Run.of("too soon, at AGE 1", EDGES, "deadline(1, 2, 3, 5, 9) 1; point(1, 2, 0) 0; point(1, 3, 4) 0; cycle(4) 1");
    }

    private static void countsBeginAgain() {
        Run.of("behind good counts", "part(1, 1, 1) 1;", ALIVE, "cycle(0) 0 *2; point(1, 1, 0) 0; cycle(0) 0; "
                + "point(1, 1, 0) 0; cycle(0) 0; cycle(0) 1");
        Run.of("behind too many", "part(1, 1, 1) 1;", ALIVE, "cycle(0) 0 *2; point(1, 1, 0) 0 *2; cycle(0) 1; "
                + "point(1, 1, 0) 1; cycle(0) 0");
        Run.of("at AGE 1 and 2 too", "part(1, 1, 1) 1;", ALIVE, "point(1, 1, 0) 0; cycle(0) 0; point(1, 1, 0) 0; "
                + "cycle(0) 0; point(1, 1, 0) 0; cycle(0) 0");
        Run.of("not within the span", "part(2, 2, 3) 1;", ALIVE, "point(1, 1, 0) 0; cycle(0) 0; cycle(0) 0; "
                + "point(1, 1, 0) 0; cycle(0) 0",
                "point(1, 1, 0) 0; cycle(0) 0; point(1, 1, 0) 0; cycle(0) 0; cycle(0) 0; cycle(0) 0 *2; cycle(0) 1");
    }

    private static void flawsOfOneCycleAreOneFailure() {
        Run.of("a late deadline and a count", "part(2, 2, 3) 1;", ALIVE, "deadline(1, 1, 2, 0, 9) 1; cycle(0) 0 *2; "
                + "point(1, 1, 0) 0",
                "cycle(10) 1; cycle(10) 0");
        Run.of("a point too soon and a count", "part(5, 5, 3) 1;", ALIVE, "deadline(1, 1, 1, 5, 9) 1; cycle(0) 0 *2; "
                + "point(1, 1, 0) 0 *2",
                "cycle(0) 1; cycle(0) 0");
        Run.of("a good count does not mend a flaw", "part(2, 2, 3) 1;", ALIVE, "deadline(1, 1, 1, 5, 9) 1; cycle(0) 0 *2",
                "point(1, 1, 0) 0 *2; cycle(0) 1");
    }

    private static void flawsAreSinceTheCycleBefore() {
        Run.of("a flaw is for one cycle", EDGES, "deadline(1, 2, 3, 5, 9) 1; point(1, 2, 0) 0; point(1, 3, 0) 0; "
                + "cycle(0) 1; cycle(0) 0; cycle(0) 0");
        Run.of("FAILED stays until the cycle", EDGES, "deadline(1, 2, 3, 5, 9) 1; point(1, 2, 0) 0; point(1, 3, 0) 0; state(1) 0",
                "cycle(0) 1; state(1) 1; outer(0) 1; state(1) 1; cycle(0) 0; state(1) 0");
    }

    private static void expiredPartsAreLeftOut() {
        Run.of("no way back", "part(1, 1, 1) 1; tolerance(0, 100) 1; cycle(0) 0 *2; cycle(0) 2; tolerance(1, 100) 1; "
                + "cycle(0) 2 *5; state(1) 2");
        Run.of("others go on", "part(1, 1, 1) 1; part(1, 1, 1) 2; tolerance(2, 1) 1; tolerance(0, 100) 1; "
                + "edge(2, 0, 1) 1; edge(2, 1, 1) 1",
                "cycle(0) 0 *2; cycle(0) 2; state(1) 2; state(2) 1; point(2, 1, 0) 1; cycle(0) 2; state(2) 0; "
                + "cycle(0) 2; state(2) 1",
                "cycle(0) 2; state(2) 2");
    }

    private static void partsToldLater() {
        Run.of("the AGE is that of all", "cycle(0) 0 *2; part(1, 1, 3) 1; tolerance(1, 9) 1; cycle(0) 1; cycle(0) 0");
        Run.of("the AGE is no multiple", "cycle(0) 0 *3; part(1, 1, 3) 1; tolerance(1, 9) 1; cycle(0) 0 *2; cycle(0) 1");
        StringBuilder parts = new StringBuilder("cycle(0) 0 *2; ");
        for (int i = 1; i <= 20; i++) {
            parts.append("part(1, 1, 1) ").append(i).append("; tolerance(").append(i).append(", 1) 1; ");
        }
        Run twenty = Run.of("all 20 are looked at", parts.toString(), "cycle(0) 1");
        for (int i = 1; i <= 20; i++) {
            twenty.due("state(%d) 1", i);
        }
    }

    private static void refusedCyclesChangeNothing() {
        String refused = "cycle(4) -2; cycle(-1) -2; cycle(long.min) -2; cycle(2^60+1) -2; cycle(long.max) -2;";
        Run.of("AGE", "cycle(5) 0;", refused, "reset(5) 1");
        Run.of("counts", "part(1, 1, 1) 1;", ALIVE, "cycle(5) 0 *2; point(1, 1, 5) 0;", refused, "cycle(5) 0");
        Run.of("flaws", EDGES, "deadline(1, 2, 3, 5, 9) 1; point(1, 2, 5) 0; point(1, 3, 5) 0;", refused, "state(1) 0; "
                + "cycle(5) 1;",
                refused, "state(1) 1; cycle(5) 0");
        Run.of("deadlines", EDGES, "deadline(1, 2, 3, 5, 9) 1; point(1, 2, 5) 0;", refused, "cycle(14) 0; cycle(15) 1");
        Run.of("the row of cycles", "part(0, 1, 1) 1; tolerance(0, 2) 1; point(1, 1, 5) 2; "
                + "cycle(5) 2;", refused, "cycle(5) 2;", refused,
                "cycle(5) 3");
    }
}
