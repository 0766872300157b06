public final class Promise04DeadlineTest {
    public static void main(String[] args) {
        countsOfAllModes();
        refusals();
        tenAtMost();
        deadlinesAreOfOneMode();
        sameTwiceIsTwo();
        longestLimits();
        Due.end();
    }

    private static void countsOfAllModes() {
        WatchRows2 x = new WatchRows2();
        x.part(0, 1, 1L);
        x.part(0, 1, 1L);
        Due.is("the first", x.deadline(1, 1, 30, 0L, 0L), 1);
        Due.is("the second", x.deadline(1, 30, 1, 100000L, 100000L), 2);
        x.mode(3);
        Due.is("the third, in another mode", x.deadline(1, 7, 7, 0L, 100000L), 3);
        Due.is("the first of another part", x.deadline(2, 7, 7, 0L, 100000L), 1);
        x.reset(0);
        Due.is("the fourth, behind a reset", x.deadline(1, 7, 7, 0L, 1L), 4);
    }

    private static void refusals() {
        WatchRows2 x = new WatchRows2();
        x.part(0, 1, 1L);
        Due.is("no part 0", x.deadline(0, 1, 2, 0L, 1L), -1);
        Due.is("no part 2", x.deadline(2, 1, 2, 0L, 1L), -1);
        Due.is("no part -1", x.deadline(-1, 1, 2, 0L, 1L), -1);
        Due.is("no part, and no point: the part comes first", x.deadline(2, 0, 2, 0L, 1L), -1);
        Due.is("from 0", x.deadline(1, 0, 1, 0L, 5L), -2);
        Due.is("from 31", x.deadline(1, 31, 1, 0L, 5L), -2);
        Due.is("from -1", x.deadline(1, -1, 1, 0L, 5L), -2);
        Due.is("to 0", x.deadline(1, 1, 0, 0L, 5L), -2);
        Due.is("to 31", x.deadline(1, 1, 31, 0L, 5L), -2);
        Due.is("least -1", x.deadline(1, 1, 2, -1L, 5L), -2);
        Due.is("least 100001", x.deadline(1, 1, 2, 100001L, 100001L), -2);
        Due.is("most below least", x.deadline(1, 1, 2, 5L, 4L), -2);
        Due.is("most 100001", x.deadline(1, 1, 2, 5L, 100001L), -2);
        Due.is("most 2^32 + 6", x.deadline(1, 1, 2, 5L, (1L << 32) + 6L), -2);
        Due.is("least MIN, most MAX", x.deadline(1, 1, 2, Long.MIN_VALUE, Long.MAX_VALUE), -2);
        Due.is("the first after refusals", x.deadline(1, 1, 2, 0L, 1L), 1);
    }

    private static void tenAtMost() {
        WatchRows2 x = new WatchRows2();
        x.part(0, 1, 1L);
        x.part(0, 1, 1L);
        for (int i = 1; i <= 10; i++) {
            x.mode(i % 4);
            Due.is("deadline", x.deadline(1, 1, 2, 0L, 1L), i);
        }
        Due.is("the eleventh", x.deadline(1, 1, 2, 0L, 1L), -4);
        Due.is("the eleventh, out of range: that comes first", x.deadline(1, 1, 0, 0L, 1L), -2);
        Due.is("another part has room", x.deadline(2, 1, 2, 0L, 1L), 1);
    }

    private static WatchRows2 withEdgesInModes0And1() {
        WatchRows2 x = new WatchRows2();
        x.part(0, 1000, 1L);
        x.tolerance(1, 50);
        for (int m = 1; m >= 0; m--) {
            x.mode(m);
            x.edge(1, 0, 2);
            x.edge(1, 2, 3);
            x.edge(1, 3, 2);
        }
        return x;
    }

    private static void deadlinesAreOfOneMode() {
        WatchRows2 x = withEdgesInModes0And1();
        x.deadline(1, 2, 3, 5L, 9L);
        x.mode(1);
        x.point(1, 2, 0L);
        x.point(1, 3, 1L);
        Due.is("no deadline in mode 1", x.cycle(1L), 0);
        x.mode(0);
        x.point(1, 2, 2L);
        x.point(1, 3, 3L);
        Due.is("too soon in mode 0", x.cycle(3L), 1);
    }

    private static void sameTwiceIsTwo() {
        WatchRows2 x = withEdgesInModes0And1();
        Due.is("one", x.deadline(1, 2, 3, 0L, 9L), 1);
        Due.is("the same again", x.deadline(1, 2, 3, 0L, 9L), 2);
        Due.is("a narrower one", x.deadline(1, 2, 3, 2L, 3L), 3);
        x.point(1, 2, 0L);
        x.point(1, 3, 4L);
        Due.is("one of three is broken", x.cycle(4L), 1);
    }

    private static void longestLimits() {
        WatchRows2 x = withEdgesInModes0And1();
        x.deadline(1, 2, 3, 100000L, 100000L);
        x.point(1, 2, 0L);
        x.point(1, 3, 100000L);
        Due.is("100000 of 100000", x.cycle(100000L), 0);
        x.point(1, 2, 100000L);
        x.point(1, 3, 199999L);
        Due.is("99999 of 100000", x.cycle(200000L), 1);
    }
}
