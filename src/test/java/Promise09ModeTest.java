public final class Promise09ModeTest {
    public static void main(String[] args) {
        whichItWas();
        refusals();
        countsAreGone();
        flawsAreGone();
        runningDeadlinesAreGone();
        pointsBeforeAreGone();
        failuresAndStatesStay();
        theSameChangesNothing();
        theRestStays();
        refusedOnesChangeNothing();
        allPairs();
        Due.end();
    }

    /** Part 1 with the same edges in modes 0 and 1, a deadline of mode 0, and mode 0 at last. */
    private static WatchRows2 watch(int least, int most, long span) {
        WatchRows2 x = new WatchRows2();
        x.part(least, most, span);
        x.tolerance(1, 9);
        for (int m = 1; m >= 0; m--) {
            x.mode(m);
            x.edge(1, 0, 1);
            x.edge(1, 1, 1);
            x.edge(1, 1, 2);
            x.edge(1, 2, 1);
        }
        x.deadline(1, 1, 2, 5L, 9L);
        return x;
    }

    private static void whichItWas() {
        WatchRows2 x = new WatchRows2();
        Due.is("mode(3)", x.mode(3), 0);
        Due.is("mode(1)", x.mode(1), 3);
        Due.is("mode(1) again", x.mode(1), 1);
        Due.is("mode(2)", x.mode(2), 1);
        Due.is("mode(0)", x.mode(0), 2);
    }

    private static void refusals() {
        WatchRows2 x = new WatchRows2();
        x.mode(2);
        Due.is("mode(-1)", x.mode(-1), -2);
        Due.is("mode(4)", x.mode(4), -2);
        Due.is("mode(MIN)", x.mode(Integer.MIN_VALUE), -2);
        Due.is("mode(MAX)", x.mode(Integer.MAX_VALUE), -2);
        Due.is("mode(2)", x.mode(2), 2);
    }

    private static void countsAreGone() {
        WatchRows2 x = watch(1, 1, 3L);
        x.point(1, 1, 0L);
        x.mode(1);
        x.cycle(0L);
        x.cycle(0L);
        Due.is("none is left of the count", x.cycle(0L), 1);
        x.point(1, 1, 0L);
        x.mode(0);
        x.point(1, 1, 0L);
        x.cycle(0L);
        x.cycle(0L);
        Due.is("one since the change", x.cycle(0L), 0);
    }

    private static void flawsAreGone() {
        WatchRows2 x = watch(0, 1000, 1L);
        x.point(1, 1, 0L);
        x.point(1, 2, 1L);
        x.mode(1);
        Due.is("the flaw is gone", x.cycle(1L), 0);
    }

    private static void runningDeadlinesAreGone() {
        WatchRows2 x = watch(0, 1000, 1L);
        x.point(1, 1, 0L);
        x.mode(1);
        Due.is("none is late in another mode", x.cycle(50L), 0);
        x.mode(0);
        Due.is("none is late back in its mode", x.cycle(60L), 0);
        x.edge(1, 0, 2);
        x.point(1, 2, 70L);
        Due.is("none is ended too late", x.cycle(70L), 0);
    }

    private static void pointsBeforeAreGone() {
        WatchRows2 x = watch(0, 1000, 1L);
        x.point(1, 1, 0L);
        x.mode(1);
        Due.is("2 is none for the beginning", x.point(1, 2, 0L), 2);
    }

    private static void failuresAndStatesStay() {
        WatchRows2 x = watch(0, 1000, 1L);
        x.part(0, 1, 1L);
        x.tolerance(0, 100);
        x.point(1, 1, 0L);
        x.point(1, 2, 1L);
        x.cycle(1L);
        x.point(1, 1, 1L);
        x.point(1, 2, 2L);
        x.cycle(2L);
        x.point(2, 5, 2L);
        x.mode(1);
        Due.is("FAILED stays", x.state(1), 1);
        Due.is("EXPIRED stays", x.state(2), 2);
        x.cycle(2L);
        Due.is("one failure is left of two", x.state(1), 1);
        x.cycle(2L);
        Due.is("none is left", x.state(1), 0);
    }

    private static void theSameChangesNothing() {
        WatchRows2 x = watch(1, 1, 3L);
        x.point(1, 1, 0L);
        x.mode(0);
        Due.is("the point before stays", x.point(1, 2, 3L), 0);
        x.mode(0);
        Due.is("the flaw stays", x.cycle(3L), 1);
        x.cycle(3L);
        Due.is("the count stays", x.cycle(3L), 0);
        x.point(1, 1, 3L);
        x.mode(0);
        Due.is("the deadline runs on", x.cycle(13L), 1);
    }

    private static void theRestStays() {
        WatchRows2 x = watch(0, 1000, 1L);
        x.cycle(30L);
        x.answer(0, 10L, 30L);
        x.mode(1);
        Due.is("AGE", x.reset(5), 1);
        Due.is("the next step", x.answer(1, 9L, 30L), 1);
        Due.is("how many resets", x.reset(1), 0);
        Due.is("an earlier time", x.cycle(29L), -2);
        Due.is("the outer watch", x.outer(101L), 0);
    }

    private static void refusedOnesChangeNothing() {
        String part = "part(1, 1, 3) 1; tolerance(1, 9) 1; mode(2) 0; edge(1, 0, 1) 1; edge(1, 1, 2) 1; "
                + "deadline(1, 1, 2, 5, 9) 1;";
        String refused = "mode(-1) -2; mode(4) -2; mode(int.min) -2; mode(int.max) -2;";
        Run.of("the count", part, "point(1, 1, 0) 0;", refused, "cycle(0) 0 *3; mode(2) 2");
        Run.of("the deadline", part, "point(1, 1, 0) 0;", refused, "cycle(9) 0; cycle(10) 1");
        Run.of("the flaw", part, "point(1, 1, 0) 0; point(1, 2, 4) 0;", refused, "cycle(4) 1");
        Run.of("the point before", part, "point(1, 1, 0) 0;", refused, "point(1, 2, 5) 0");
    }

    private static void allPairs() {
        for (int m = 0; m <= 3; m++) {
            for (int n = 0; n <= 3; n++) {
                Run run = new Run("from " + m + " to " + n).due("part(0, 9, 1) 1; mode(%d) 0; edge(1, 0, 2) 1; "
                        + "edge(1, 2, 3) 1", m);
                run.due("point(1, 2, 0) 0; mode(%d) %d; mode(%d) %d; point(1, 3, 0) %d", n, m, m, n, m == n ? 0 : 2);
            }
        }
    }
}
