public final class Promise06CycleTest {
    public static void main(String[] args) {
        refusals();
        ageCounts();
        lateDeadlines();
        lateDeadlinesRunNoMore();
        youngCountsAreNotLookedAt();
        youngCountsBeginAgain();
        spans();
        failuresUpAndDown();
        globalStateIsTheWorst();
        globalTolerance();
        cyclesOneBehindTheOther();
        resetBeginsTheRowOfCyclesAgain();
        resetByACycle();
        ranges();
        Due.end();
    }

    private static WatchRows2 watch(int tolerance) {
        WatchRows2 x = new WatchRows2();
        x.part(0, 1000, 1L);
        x.tolerance(1, tolerance);
        x.edge(1, 0, 2);
        x.edge(1, 2, 2);
        x.deadline(1, 2, 3, 0L, 9L);
        return x;
    }

    private static void refusals() {
        WatchRows2 x = watch(0);
        Due.is("cycle(-1)", x.cycle(-1L), -2);
        Due.is("cycle(MIN)", x.cycle(Long.MIN_VALUE), -2);
        Due.is("cycle(2^60 + 1)", x.cycle((1L << 60) + 1L), -2);
        Due.is("AGE after refusals", x.reset(5), 0);
        Due.is("cycle(8)", x.cycle(8L), 0);
        Due.is("cycle(7)", x.cycle(7L), -2);
        Due.is("cycle(8) again", x.cycle(8L), 0);
        Due.is("cycle(2^60)", x.cycle(1L << 60), 0);
        Due.is("AGE", x.reset(5), 3);
    }

    private static void ageCounts() {
        WatchRows2 x = new WatchRows2();
        for (int i = 1; i <= 5; i++) {
            Due.is("cycle without parts", x.cycle(i), 0);
            Due.is("AGE", x.reset(5), i);
        }
    }

    private static void lateDeadlines() {
        WatchRows2 x = watch(9);
        x.point(1, 2, 10L);
        Due.is("9 of 9", x.cycle(19L), 0);
        Due.is("10 of 9", x.cycle(20L), 1);
    }

    private static void lateDeadlinesRunNoMore() {
        WatchRows2 x = watch(9);
        x.edge(1, 2, 3);
        x.point(1, 2, 0L);
        Due.is("too late", x.cycle(10L), 1);
        Due.is("only once", x.cycle(11L), 0);
        x.point(1, 3, 30L);
        Due.is("its end is not looked at", x.cycle(30L), 0);
    }

    private static void youngCountsAreNotLookedAt() {
        WatchRows2 x = new WatchRows2();
        x.part(1, 1, 1L);
        x.part(1, 1, 2L);
        x.tolerance(1, 9);
        x.tolerance(2, 9);
        Due.is("AGE 1", x.cycle(0L), 0);
        Due.is("AGE 2", x.cycle(0L), 0);
        Due.is("AGE 3", x.cycle(0L), 1);
        Due.is("the span of 1", x.state(1), 1);
        Due.is("the span of 2", x.state(2), 0);
        Due.is("AGE 4", x.cycle(0L), 1);
        Due.is("the span of 2 then", x.state(2), 1);
    }

    private static void youngCountsBeginAgain() {
        WatchRows2 x = new WatchRows2();
        x.part(1, 1, 2L);
        x.tolerance(1, 9);
        x.edge(1, 0, 1);
        x.edge(1, 1, 1);
        x.point(1, 1, 0L);
        x.cycle(0L);
        x.point(1, 1, 0L);
        Due.is("two at AGE 2", x.cycle(0L), 0);
        x.cycle(0L);
        x.point(1, 1, 0L);
        Due.is("one at AGE 4", x.cycle(0L), 0);
        x.point(1, 1, 0L);
        x.cycle(0L);
        Due.is("one at AGE 6", x.cycle(0L), 0);
        Due.is("none at AGE 7, no multiple", x.cycle(0L), 0);
        Due.is("none at AGE 8", x.cycle(0L), 1);
    }

    private static void spans() {
        WatchRows2 x = new WatchRows2();
        x.cycle(0L);
        x.cycle(0L);
        x.part(1, 1, 3L);
        x.tolerance(1, 9);
        Due.is("AGE 3 for a part that came later", x.cycle(0L), 1);
        Due.is("AGE 4", x.cycle(0L), 0);
    }

    private static void failuresUpAndDown() {
        WatchRows2 x = watch(2);
        x.point(1, 2, 0L);
        Due.is("one failure", x.cycle(10L), 1);
        x.point(1, 2, 10L);
        Due.is("two failures", x.cycle(20L), 1);
        Due.is("one again", x.cycle(20L), 1);
        Due.is("none", x.cycle(20L), 0);
        Due.is("not less than none", x.cycle(20L), 0);
        for (int i = 1; i <= 2; i++) {
            x.point(1, 2, 20L * i);
            Due.is("a failure", x.cycle(20L * i + 10L), 1);
        }
        x.tolerance(0, 100);
        x.point(1, 2, 60L);
        Due.is("the third is more than the tolerance", x.cycle(70L), 2);
        Due.is("state(1)", x.state(1), 2);
        Due.is("no way back", x.cycle(70L), 2);
    }

    private static void globalStateIsTheWorst() {
        WatchRows2 x = watch(9);
        x.part(0, 1, 1L);
        x.part(0, 1, 1L);
        x.tolerance(0, 100);
        Due.is("all OK", x.cycle(0L), 0);
        x.point(1, 2, 0L);
        Due.is("one FAILED", x.cycle(10L), 1);
        x.point(1, 2, 10L);
        x.point(2, 1, 10L);
        Due.is("one FAILED, one EXPIRED", x.cycle(20L), 2);
        Due.is("the third", x.state(3), 0);
    }

    private static void globalTolerance() {
        WatchRows2 x = watch(0);
        x.point(1, 7, 0L);
        Due.is("at first 0", x.cycle(0L), 3);
        x.tolerance(0, 3);
        x.point(1, 7, 0L);
        Due.is("1", x.cycle(0L), 2);
        Due.is("2", x.cycle(0L), 2);
        Due.is("3", x.cycle(0L), 2);
        Due.is("4", x.cycle(0L), 3);
        Due.is("behind it", x.cycle(0L), 0);
    }

    private static void cyclesOneBehindTheOther() {
        WatchRows2 x = watch(0);
        x.tolerance(0, 5);
        x.point(1, 7, 0L);
        x.cycle(0L);
        x.cycle(0L);
        x.tolerance(0, 2);
        Due.is("the third, with a tolerance told later", x.cycle(0L), 3);
    }

    private static void resetBeginsTheRowOfCyclesAgain() {
        WatchRows2 x = watch(0);
        x.tolerance(0, 1);
        x.point(1, 7, 0L);
        Due.is("the first", x.cycle(0L), 2);
        x.reset(0);
        x.point(1, 7, 0L);
        Due.is("the first behind a reset", x.cycle(0L), 2);
        Due.is("the second", x.cycle(0L), 3);
        x.point(1, 7, 0L);
        Due.is("the first behind a reset by a cycle", x.cycle(0L), 2);
    }

    private static void resetByACycle() {
        WatchRows2 x = watch(0);
        x.part(0, 1, 1L);
        x.mode(1);
        x.mode(0);
        x.point(2, 7, 20L);
        Due.is("cycle", x.cycle(20L), 3);
        Due.is("the reason", x.reset(2), 1);
        Due.is("how many", x.reset(1), 1);
        Due.is("AGE", x.reset(5), 0);
        Due.is("state(2)", x.state(2), 0);
        Due.is("the outer watch counts from then", x.outer(120L), 1);
    }

    private static void ranges() {
        for (long told : new long[] {0L, 1L, 7L, (1L << 32) + 7L, (1L << 60) - 1L, 1L << 60}) {
            for (long t : new long[] {Long.MIN_VALUE, -1L, 0L, 6L, 7L, told - 1L, told, told + 1L, 1L << 60, (1L << 60) + 1L, Long.MAX_VALUE}) {
                boolean allowed = t >= told && t <= 1L << 60;
                Run run = new Run("told " + told).due(Call.of("cycle", 0, told)).due(Call.of("cycle", allowed ? 0 : -2, t));
                run.due("reset(5) %d", allowed ? 2 : 1).due(Call.of("cycle", allowed && t > told ? -2 : 0, told));
            }
        }
    }
}
