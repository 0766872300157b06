public final class Promise04DeadlineTest {
    public static void main(String[] args) {
        countsOfAllModes();
        refusals();
        tenAtMost();
        deadlinesAreOfOneMode();
        sameTwiceIsTwo();
        longestLimits();
        ranges();
        rangesWithoutRoom();
        refusedOnesMakeNone();
        Due.end();
    }

    private static void countsOfAllModes() {
        WatchRows2 x = new WatchRows2();
        x.part(0, 1, 1L);
        x.part(0, 1, 1L);
        Due.is("the first", x.deadline(1, 1, 30, 0L, 0L), 1);
        Due.is("the second", x.deadline(1, 30, 1, 100000L, 100000L), 2);
        x.mode(3);
        Due.is("the third, in another mode", x.deadline(1, 7, 7, 0L, 100000L), 3);
        Due.is("the first of another part", x.deadline(2, 7, 7, 0L, 100000L), 1);
        x.reset(0);
        Due.is("the fourth, behind a reset", x.deadline(1, 7, 7, 0L, 1L), 4);
    }

    private static void refusals() {
        WatchRows2 x = new WatchRows2();
        x.part(0, 1, 1L);
        Due.is("no part 0", x.deadline(0, 1, 2, 0L, 1L), -1);
        Due.is("no part 2", x.deadline(2, 1, 2, 0L, 1L), -1);
        Due.is("no part -1", x.deadline(-1, 1, 2, 0L, 1L), -1);
        Due.is("no part, and no point: the part comes first", x.deadline(2, 0, 2, 0L, 1L), -1);
        Due.is("from 0", x.deadline(1, 0, 1, 0L, 5L), -2);
        Due.is("from 31", x.deadline(1, 31, 1, 0L, 5L), -2);
        Due.is("from -1", x.deadline(1, -1, 1, 0L, 5L), -2);
        Due.is("to 0", x.deadline(1, 1, 0, 0L, 5L), -2);
        Due.is("to 31", x.deadline(1, 1, 31, 0L, 5L), -2);
        Due.is("least -1", x.deadline(1, 1, 2, -1L, 5L), -2);
        Due.is("least 100001", x.deadline(1, 1, 2, 100001L, 100001L), -2);
        Due.is("most below least", x.deadline(1, 1, 2, 5L, 4L), -2);
        Due.is("most 100001", x.deadline(1, 1, 2, 5L, 100001L), -2);
        Due.is("most 2^32 + 6", x.deadline(1, 1, 2, 5L, (1L << 32) + 6L), -2);
        Due.is("least MIN, most MAX", x.deadline(1, 1, 2, Long.MIN_VALUE, Long.MAX_VALUE), -2);
        Due.is("the first after refusals", x.deadline(1, 1, 2, 0L, 1L), 1);
    }

    private static void tenAtMost() {
        WatchRows2 x = new WatchRows2();
        x.part(0, 1, 1L);
        x.part(0, 1, 1L);
        for (int i = 1; i <= 10; i++) {
            x.mode(i % 4);
            Due.is("deadline", x.deadline(1, 1, 2, 0L, 1L), i);
        }
        Due.is("the eleventh", x.deadline(1, 1, 2, 0L, 1L), -4);
        Due.is("the eleventh, out of range: that comes first", x.deadline(1, 1, 0, 0L, 1L), -2);
        Due.is("another part has room", x.deadline(2, 1, 2, 0L, 1L), 1);
    }

    private static WatchRows2 withEdgesInModes0And1() {
        WatchRows2 x = new WatchRows2();
        x.part(0, 1000, 1L);
        x.tolerance(1, 50);
        for (int m = 1; m >= 0; m--) {
            x.mode(m);
            x.edge(1, 0, 2);
            x.edge(1, 2, 3);
            x.edge(1, 3, 2);
        }
        return x;
    }

    private static void deadlinesAreOfOneMode() {
        WatchRows2 x = withEdgesInModes0And1();
        x.deadline(1, 2, 3, 5L, 9L);
        x.mode(1);
        x.point(1, 2, 0L);
        x.point(1, 3, 1L);
        Due.is("no deadline in mode 1", x.cycle(1L), 0);
        x.mode(0);
        x.point(1, 2, 2L);
        x.point(1, 3, 3L);
        Due.is("too soon in mode 0", x.cycle(3L), 1);
    }

    private static void sameTwiceIsTwo() {
        WatchRows2 x = withEdgesInModes0And1();
        Due.is("one", x.deadline(1, 2, 3, 0L, 9L), 1);
        Due.is("the same again", x.deadline(1, 2, 3, 0L, 9L), 2);
        Due.is("a narrower one", x.deadline(1, 2, 3, 2L, 3L), 3);
        x.point(1, 2, 0L);
        x.point(1, 3, 4L);
        Due.is("one of three is broken", x.cycle(4L), 1);
    }

    private static void longestLimits() {
        WatchRows2 x = withEdgesInModes0And1();
        x.deadline(1, 2, 3, 100000L, 100000L);
        x.point(1, 2, 0L);
        x.point(1, 3, 100000L);
        Due.is("100000 of 100000", x.cycle(100000L), 0);
        x.point(1, 2, 100000L);
        x.point(1, 3, 199999L);
        Due.is("99999 of 100000", x.cycle(200000L), 1);
    }

    private static final int[] POINTS = {Integer.MIN_VALUE, -1, 0, 1, 30, 31, Integer.MAX_VALUE};
    private static final long[] LIMITS = {Long.MIN_VALUE, -1L, 0L, 1L, 99999L, 100000L, 100001L, 1L << 32, Long.MAX_VALUE};

    private static boolean isInRange(int from, int to, long least, long most) {
        boolean points = from >= 1 && from <= 30 && to >= 1 && to <= 30;
        return points && least >= 0L && least <= 100000L && most >= least && most <= 100000L;
    }

    private static void ranges() {
        for (int from : POINTS) {
            for (int to : POINTS) {
                for (long least : LIMITS) {
                    for (long most : LIMITS) {
                        int due = isInRange(from, to, least, most) ? 1 : -2;
                        Run run = new Run("one part").due("part(0, 1, 1) 1").due(Call.of("deadline", due, 1, from, to, least, most));
                        run.due(Call.of("deadline", -1, 2, from, to, least, most)).due(Call.of("deadline", -1, 0, from, to, least, most));
                        run.due("deadline(1, 1, 1, 0, 0) %d", due == 1 ? 2 : 1);
                    }
                }
            }
        }
    }

    private static void rangesWithoutRoom() {
        for (int from : POINTS) {
            for (int to : POINTS) {
                Run run = new Run("ten deadlines").due("part(0, 1, 1) 1; part(0, 1, 1) 2");
                for (int i = 1; i <= 10; i++) {
                    run.due("deadline(1, 1, 2, 0, 1) %d", i);
                }
                for (long least : LIMITS) {
                    for (long most : LIMITS) {
                        run.due(Call.of("deadline", isInRange(from, to, least, most) ? -4 : -2, 1, from, to, least, most));
                        run.due(Call.of("deadline", -1, 3, from, to, least, most));
                    }
                }
                run.due("deadline(2, 1, 2, 0, 1) 1; reset(0) 1; deadline(1, 1, 2, 0, 1) -4; mode(3) 0; "
                        + "deadline(1, 1, 2, 0, 1) -4");
            }
        }
    }

    private static void refusedOnesMakeNone() {
        String part = "part(0, 1000, 100) 1; tolerance(1, 9) 1; edge(1, 0, 2) 1; edge(1, 2, 3) 1; edge(1, 3, 2) 1;";
        String refused = "deadline(1, 2, 3, 5, 4) -2; deadline(1, 2, 3, -1, 4) -2; deadline(1, 2, 3, 0, 100001) -2; "
                + "deadline(2, 2, 3, 5, 9) -1;"
                + "deadline(0, 2, 3, 5, 9) -1; deadline(1, 0, 3, 5, 9) -2; deadline(1, 2, 31, 5, 9) -2;";
        Run.of("too soon for none", part, refused, "point(1, 2, 0) 0; point(1, 3, 0) 0; cycle(0) 0; deadline(1, 2, 3, 5, 9) 1");
        Run.of("too late for none", part, refused, "point(1, 2, 0) 0; cycle(2^40) 0; deadline(1, 2, 3, 5, 9) 1");
        Run full = Run.of("an eleventh makes none", part);
        for (int i = 1; i <= 10; i++) {
            full.due("deadline(1, 2, 3, 0, 9) %d", i);
        }
        full.due("deadline(1, 2, 3, 5, 9) -4; point(1, 2, 0) 0; point(1, 3, 0) 0; cycle(0) 0");
    }
}
