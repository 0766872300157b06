public final class Promise02PartTest {
    public static void main(String[] args) {
        numbersAndEdges();
        refusals();
        spanOfZero();
        twentyAtMost();
        leastAndMostAreKept();
        spanIsKept();
        ranges();
        rangesWithoutRoom();
        refusedOnesMakeNone();
        Due.end();
    }

    private static void numbersAndEdges() {
        WatchRows2 x = new WatchRows2();
        Due.is("part(0, 0, 1)", x.part(0, 0, 1L), 1);
        Due.is("part(1000, 1000, 100)", x.part(1000, 1000, 100L), 2);
        Due.is("part(0, 1000, 50)", x.part(0, 1000, 50L), 3);
        Due.is("state(3)", x.state(3), 0);
        Due.is("state(4)", x.state(4), -1);
    }

    private static void refusals() {
        WatchRows2 x = new WatchRows2();
        Due.is("part(-1, 5, 1)", x.part(-1, 5, 1L), -2);
        Due.is("part(1001, 1001, 1)", x.part(1001, 1001, 1L), -2);
        Due.is("part(5, 4, 1)", x.part(5, 4, 1L), -2);
        Due.is("part(5, 1001, 1)", x.part(5, 1001, 1L), -2);
        Due.is("part(0, 1, -1)", x.part(0, 1, -1L), -2);
        Due.is("part(0, 1, 101)", x.part(0, 1, 101L), -2);
        Due.is("part(0, 1, 2^32)", x.part(0, 1, 1L << 32), -2);
        Due.is("part(0, 1, Long.MIN_VALUE)", x.part(0, 1, Long.MIN_VALUE), -2);
        Due.is("part(MIN, MAX, 1)", x.part(Integer.MIN_VALUE, Integer.MAX_VALUE, 1L), -2);
        Due.is("part(-1, 5, 0): the range comes before the span of 0", x.part(-1, 5, 0L), -2);
        Due.is("part(5, 4, 0)", x.part(5, 4, 0L), -2);
        Due.is("state(1) after refusals", x.state(1), -1);
    }

    private static void spanOfZero() {
        WatchRows2 x = new WatchRows2();
        Due.throwsArithmetic("part(1, 2, 0)", x, 1, 2, 0L);
        Due.throwsArithmetic("part(0, 0, 0)", x, 0, 0, 0L);
        Due.is("state(1) after the exception", x.state(1), -1);
        Due.is("part(1, 2, 1) after the exception", x.part(1, 2, 1L), 1);
    }

    private static void twentyAtMost() {
        WatchRows2 x = new WatchRows2();
        for (int i = 1; i < 20; i++) {
            Due.is("part", x.part(0, 1, 1L), i);
        }
        Due.throwsArithmetic("part(0, 1, 0) with room for one", x, 0, 1, 0L);
        Due.is("the 20th part", x.part(0, 1, 1L), 20);
        Due.is("the 21st part", x.part(0, 1, 1L), -4);
        Due.is("part(0, 1, 0) without room", x.part(0, 1, 0L), -4);
        Due.is("part(0, 1, 101) without room: the range comes first", x.part(0, 1, 101L), -2);
        Due.is("state(20)", x.state(20), 0);
        Due.is("state(21)", x.state(21), -1);
    }

    private static int stateAfter(int alivePoints, int least, int most) {
        WatchRows2 x = new WatchRows2();
        x.part(least, most, 3L);
        x.tolerance(1, 1);
        x.edge(1, 0, 1);
        x.edge(1, 1, 1);
        x.cycle(0L);
        x.cycle(0L);
        for (int i = 0; i < alivePoints; i++) {
            x.point(1, 1, 0L);
        }
        x.cycle(0L);
        return x.state(1);
    }

    private static void leastAndMostAreKept() {
        Due.is("1 alive of 2 .. 4", stateAfter(1, 2, 4), 1);
        Due.is("2 alive of 2 .. 4", stateAfter(2, 2, 4), 0);
        Due.is("4 alive of 2 .. 4", stateAfter(4, 2, 4), 0);
        Due.is("5 alive of 2 .. 4", stateAfter(5, 2, 4), 1);
        Due.is("0 alive of 0 .. 0", stateAfter(0, 0, 0), 0);
    }

    private static void spanIsKept() {
        WatchRows2 x = new WatchRows2();
        x.part(1, 1, 100L);
        x.tolerance(1, 1);
        for (int age = 1; age < 100; age++) {
            Due.is("a cycle within the span", x.cycle(0L), 0);
        }
        Due.is("cycle 100 of a span of 100", x.cycle(0L), 1);
    }

    private static final int[] COUNTS = {Integer.MIN_VALUE, -1, 0, 1, 2, 999, 1000, 1001, Integer.MAX_VALUE};
    private static final long[] SPANS = {Long.MIN_VALUE, -1L, 0L, 1L, 2L, 99L, 100L, 101L, 1L << 32, (1L << 32) + 1L, Long.MAX_VALUE};

    private static boolean isInRange(int least, int most, long span) {
        return least >= 0 && least <= 1000 && most >= least && most <= 1000 && span >= 0L && span <= 100L;
    }

    private static void ranges() {
        for (int least : COUNTS) {
            for (int most : COUNTS) {
                for (long span : SPANS) {
                    boolean allowed = isInRange(least, most, span);
                    long due = !allowed ? -2 : span == 0L ? Call.THROWS : 1;
                    Run run = new Run("a new object").due(Call.of("part", due, least, most, span));
                    run.due("state(1) %d; part(0, 1, 1) %d", due == 1 ? 0 : -1, due == 1 ? 2 : 1);
                }
            }
        }
        for (int least = 0; least < 1000; least += 37) {
            Run.of("MOST at LEAST, and one less").due("part(%d, %d, 1) -2; part(%d, %d, 1) 1", least, least - 1, least, least);
        }
    }

    private static void rangesWithoutRoom() {
        for (int least : COUNTS) {
            Run run = new Run("20 parts");
            for (int i = 1; i <= 20; i++) {
                run.due("part(0, 1, 1) %d", i);
            }
            for (int most : COUNTS) {
                for (long span : SPANS) {
                    run.due(Call.of("part", isInRange(least, most, span) ? -4 : -2, least, most, span));
                }
            }
            run.due("state(20) 0; state(21) -1");
        }
    }

    private static void refusedOnesMakeNone() {
        Run run = new Run("refused and thrown ones between");
        for (int i = 1; i <= 20; i++) {
            run.due("part(-1, 5, 1) -2; part(0, 1, 101) -2; part(0, 1, 0) throws; state(%d) -1; part(0, 1, 1) %d; "
                    + "state(%d) 0", i, i, i);
        }
        run.due("part(-1, 5, 1) -2; part(0, 1, 101) -2; part(0, 1, 0) -4; part(0, 1, 1) -4; cycle(0) 0; state(21) -1");
    }
}
