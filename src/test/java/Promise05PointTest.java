public final class Promise05PointTest {
    private static final long LAST_TIME = 1L << 60;

    public static void main(String[] args) {
        refusals();
        refusedTimesAreNotTold();
        firstPointNeedsAnEdgeFromZero();
        missingEdgeExpires();
        expiredStaysExpired();
        timesOfDeadlines();
        endedDeadlinesRunNoMore();
        deadlinesBeginAnew();
        deadlineFromAPointToItself();
        flawsShowInTheCycleOnly();
        aliveOnesAloneAreCounted();
        largeTimes();
        ranges();
        Due.end();
    }

    private static WatchRows2 withDeadline(long least, long most) {
        WatchRows2 x = new WatchRows2();
        x.part(0, 1000, 1L);
        x.tolerance(1, 50);
        x.edge(1, 0, 2);
        x.edge(1, 2, 2);
        x.edge(1, 2, 3);
        x.edge(1, 3, 2);
        x.edge(1, 3, 3);
        x.deadline(1, 2, 3, least, most);
        return x;
    }

    private static void refusals() {
        WatchRows2 x = withDeadline(5L, 9L);
        Due.is("part 0", x.point(0, 2, 0L), -1);
        Due.is("part 2", x.point(2, 2, 0L), -1);
        Due.is("part MIN", x.point(Integer.MIN_VALUE, 2, 0L), -1);
        Due.is("part 2, point 31, time -1", x.point(2, 31, -1L), -1);
        Due.is("point 0", x.point(1, 0, 0L), -2);
        Due.is("point 31", x.point(1, 31, 0L), -2);
        Due.is("point -1", x.point(1, -1, 0L), -2);
        Due.is("time -1", x.point(1, 2, -1L), -2);
        Due.is("time above 2^60", x.point(1, 2, LAST_TIME + 1L), -2);
        Due.is("time MAX", x.point(1, 2, Long.MAX_VALUE), -2);
        Due.is("time MIN", x.point(1, 2, Long.MIN_VALUE), -2);
        Due.is("time 0", x.point(1, 2, 0L), 0);
        Due.is("time 2^60", x.point(1, 2, LAST_TIME), 0);
        Due.is("time below 2^60 then", x.point(1, 2, LAST_TIME - 1L), -2);
    }

    private static void refusedTimesAreNotTold() {
        WatchRows2 x = withDeadline(5L, 9L);
        Due.is("no part at 50", x.point(2, 2, 50L), -1);
        Due.is("no point at 50", x.point(1, 31, 50L), -2);
        Due.is("time 10", x.point(1, 2, 10L), 0);
        Due.is("time 10 again", x.point(1, 2, 10L), 0);
        Due.is("time 9", x.point(1, 2, 9L), -2);
        Due.is("cycle(9)", x.cycle(9L), -2);
        Due.is("outer(9)", x.outer(9L), -2);
        Due.is("answer(0, 10, 9)", x.answer(0, 10L, 9L), -2);
    }

    private static void firstPointNeedsAnEdgeFromZero() {
        WatchRows2 x = withDeadline(5L, 9L);
        Due.is("point 3 at first", x.point(1, 3, 0L), 2);
        Due.is("state(1)", x.state(1), 2);
    }

    private static void missingEdgeExpires() {
        WatchRows2 x = withDeadline(5L, 9L);
        Due.is("point 2", x.point(1, 2, 0L), 0);
        Due.is("point 30, no edge", x.point(1, 30, 0L), 2);
        Due.is("state(1) in spite of its tolerance", x.state(1), 2);
    }

    private static void expiredStaysExpired() {
        WatchRows2 x = withDeadline(5L, 9L);
        x.tolerance(0, 100);
        x.point(1, 2, 0L);
        Due.is("no edge", x.point(1, 30, 0L), 2);
        x.edge(1, 30, 2);
        Due.is("an edge now", x.point(1, 2, 0L), 2);
        Due.is("another", x.point(1, 3, 1L), 2);
        Due.is("cycle", x.cycle(1L), 2);
        Due.is("state(1)", x.state(1), 2);
        Due.is("a time that an expired part's point told", x.point(1, 2, 7L), 2);
        Due.is("less than that", x.cycle(6L), -2);
    }

    private static int cycleAfter(long time) {
        WatchRows2 x = withDeadline(5L, 9L);
        x.point(1, 2, 100L);
        x.point(1, 3, 100L + time);
        return x.cycle(100L + time);
    }

    private static void timesOfDeadlines() {
        Due.is("4 of 5 .. 9", cycleAfter(4L), 1);
        Due.is("5 of 5 .. 9", cycleAfter(5L), 0);
        Due.is("9 of 5 .. 9", cycleAfter(9L), 0);
        Due.is("10 of 5 .. 9", cycleAfter(10L), 1);
    }

    private static void endedDeadlinesRunNoMore() {
        WatchRows2 x = withDeadline(0L, 9L);
        x.point(1, 2, 0L);
        x.point(1, 3, 5L);
        x.point(1, 3, 20L);
        Due.is("ended once, in time", x.cycle(20L), 0);
        Due.is("still", x.cycle(40L), 0);
    }

    private static void deadlinesBeginAnew() {
        WatchRows2 x = withDeadline(5L, 9L);
        x.point(1, 2, 0L);
        x.point(1, 2, 6L);
        x.point(1, 3, 12L);
        Due.is("6 since it began anew", x.cycle(12L), 0);
        x.point(1, 2, 12L);
        x.point(1, 2, 18L);
        x.point(1, 3, 20L);
        Due.is("2 since it began anew", x.cycle(20L), 1);
    }

    private static void deadlineFromAPointToItself() {
        WatchRows2 x = withDeadline(0L, 100000L);
        x.deadline(1, 2, 2, 5L, 9L);
        x.point(1, 2, 0L);
        Due.is("the first does not end it", x.cycle(0L), 0);
        x.point(1, 2, 5L);
        Due.is("5", x.cycle(5L), 0);
        x.point(1, 2, 14L);
        Due.is("9 more", x.cycle(14L), 0);
        x.point(1, 2, 18L);
        Due.is("4 more", x.cycle(18L), 1);
        x.point(1, 2, 24L);
        Due.is("6 more", x.cycle(24L), 0);
    }

    private static void flawsShowInTheCycleOnly() {
        WatchRows2 x = withDeadline(5L, 9L);
        x.point(1, 2, 0L);
        Due.is("a flawed point", x.point(1, 3, 1L), 0);
        Due.is("state(1) before the cycle", x.state(1), 0);
        x.point(1, 2, 1L);
        Due.is("a good point behind it", x.point(1, 3, 7L), 0);
        x.point(1, 2, 7L);
        Due.is("another flawed one", x.point(1, 3, 8L), 0);
        Due.is("the cycle", x.cycle(8L), 1);
        Due.is("a point of a failed part", x.point(1, 2, 8L), 1);
        Due.is("two flaws are one failure", x.cycle(8L), 0);
    }

    private static void aliveOnesAloneAreCounted() {
        WatchRows2 x = new WatchRows2();
        x.part(2, 2, 3L);
        x.tolerance(1, 1);
        x.edge(1, 0, 1);
        x.edge(1, 1, 2);
        x.edge(1, 2, 1);
        x.point(1, 1, 0L);
        x.point(1, 2, 0L);
        x.point(1, 1, 0L);
        x.point(1, 2, 0L);
        x.cycle(0L);
        x.cycle(0L);
        Due.is("two alive ones among four", x.cycle(0L), 0);
    }

    private static void largeTimes() {
        WatchRows2 x = withDeadline(0L, 100000L);
        x.point(1, 2, 0L);
        x.point(1, 3, (1L << 32) + 1L);
        Due.is("a time of more than 32 bits", x.cycle((1L << 32) + 1L), 1);
        x.point(1, 2, LAST_TIME);
        x.point(1, 3, LAST_TIME);
        Due.is("none", x.cycle(LAST_TIME), 0);
    }

    private static void ranges() {
        int[] points = {Integer.MIN_VALUE, -1, 0, 1, 2, 30, 31, 32, 33, Integer.MAX_VALUE};
        long[] times = {Long.MIN_VALUE, -1L, 0L, 6L, 7L, 8L, LAST_TIME - 1L, LAST_TIME, LAST_TIME + 1L, Long.MAX_VALUE};
        for (int part : new int[] {Integer.MIN_VALUE, -1, 0, 1, 2, 3, Integer.MAX_VALUE}) {
            for (int p : points) {
                for (long t : times) {
                    boolean allowed = p >= 1 && p <= 30 && t >= 7L && t <= LAST_TIME;
                    int due = part != 1 && part != 2 ? -1 : !allowed ? -2 : p == 2 ? 0 : 2;
                    Run run = new Run("two parts at 7").due("part(0, 9, 1) 1; part(0, 9, 1) 2; edge(1, 0, 2) 1; "
                            + "edge(2, 0, 2) 1; cycle(7) 0");
                    run.due(Call.of("point", due, part, p, t));
                    run.due("state(1) %d; state(2) %d", part == 1 && due == 2 ? 2 : 0, part == 2 && due == 2 ? 2 : 0);
                    run.due(Call.of("outer", due < 0 || t == 7L ? 1 : -2, 7));
                }
            }
        }
    }
}
