public final class Promise10ResetTest {
    public static void main(String[] args) {
        refusals();
        howManyAndWhy();
        askingChangesNothing();
        partsAreOkAgain();
        failuresAreGone();
        countsAndFlawsAreGone();
        runningDeadlinesAreGone();
        pointsBeforeAreGone();
        modeIsZero();
        questionBeginsAgain();
        edgesAndDeadlinesStay();
        timesStay();
        ranges();
        Due.end();
    }

    private static WatchRows2 watch(int least, int most) {
        WatchRows2 x = new WatchRows2();
        x.part(least, most, 3L);
        x.tolerance(1, 1);
        x.edge(1, 0, 1);
        x.edge(1, 1, 1);
        x.edge(1, 1, 2);
        x.edge(1, 2, 1);
        x.deadline(1, 1, 2, 5L, 9L);
        return x;
    }

    private static void refusals() {
        WatchRows2 x = new WatchRows2();
        Due.is("reset(-1)", x.reset(-1), -2);
        Due.is("reset(6)", x.reset(6), -2);
        Due.is("reset(MIN)", x.reset(Integer.MIN_VALUE), -2);
        Due.is("reset(MAX)", x.reset(Integer.MAX_VALUE), -2);
        Due.is("reset(1)", x.reset(1), 0);
    }

    private static void howManyAndWhy() {
        WatchRows2 x = new WatchRows2();
        Due.is("no reason at first", x.reset(2), 0);
        Due.is("the first", x.reset(0), 1);
        Due.is("its reason", x.reset(2), 4);
        Due.is("the second", x.reset(0), 2);
        Due.is("the outer watch, too late", x.outer(101L), 0);
        Due.is("how many", x.reset(1), 3);
        Due.is("its reason", x.reset(2), 3);
        x.part(0, 1, 1L);
        x.point(1, 1, 101L);
        Due.is("an expired part", x.cycle(101L), 3);
        Due.is("how many", x.reset(1), 4);
        Due.is("its reason", x.reset(2), 1);
        for (int i = 0; i < 8; i++) {
            x.answer(3, 0L, 101L);
        }
        Due.is("how many", x.reset(1), 5);
        Due.is("its reason", x.reset(2), 2);
        Due.is("one more", x.reset(0), 6);
        Due.is("its reason", x.reset(2), 4);
    }

    private static void askingChangesNothing() {
        WatchRows2 x = watch(0, 9);
        x.answer(0, 10L, 5L);
        x.answer(3, 10L, 5L);
        x.cycle(5L);
        for (int i = 0; i < 2; i++) {
            Due.is("reset(1)", x.reset(1), 0);
            Due.is("reset(2)", x.reset(2), 0);
            Due.is("reset(3)", x.reset(3), 0);
            Due.is("reset(4)", x.reset(4), 1);
            Due.is("reset(5)", x.reset(5), 1);
        }
    }

    private static void partsAreOkAgain() {
        WatchRows2 x = watch(0, 9);
        x.part(0, 1, 1L);
        x.point(1, 1, 0L);
        x.point(1, 2, 1L);
        x.cycle(1L);
        x.point(2, 1, 1L);
        Due.is("FAILED", x.state(1), 1);
        Due.is("EXPIRED", x.state(2), 2);
        x.reset(0);
        Due.is("OK", x.state(1), 0);
        Due.is("OK too", x.state(2), 0);
        Due.is("the global state", x.cycle(1L), 0);
        Due.is("AGE", x.reset(5), 1);
    }

    private static void failuresAreGone() {
        WatchRows2 x = watch(0, 9);
        x.point(1, 1, 0L);
        x.point(1, 2, 1L);
        Due.is("one failure", x.cycle(1L), 1);
        x.reset(0);
        x.point(1, 1, 1L);
        x.point(1, 2, 2L);
        Due.is("one failure again, within the tolerance", x.cycle(2L), 1);
    }

    private static void countsAndFlawsAreGone() {
        WatchRows2 x = watch(1, 1);
        x.point(1, 1, 0L);
        x.point(1, 2, 1L);
        x.reset(0);
        x.point(1, 1, 1L);
        Due.is("no flaw", x.cycle(1L), 0);
        x.cycle(1L);
        Due.is("a count of one", x.cycle(1L), 0);
        x.reset(0);
        Due.is("AGE", x.reset(5), 0);
        Due.is("AGE 1", x.cycle(1L), 0);
        Due.is("AGE 2", x.cycle(1L), 0);
        Due.is("none at AGE 3", x.cycle(1L), 1);
    }

    private static void runningDeadlinesAreGone() {
        WatchRows2 x = watch(0, 9);
        x.point(1, 1, 0L);
        x.reset(0);
        Due.is("none is late", x.cycle(50L), 0);
        x.edge(1, 0, 2);
        x.point(1, 2, 60L);
        Due.is("none is ended too late", x.cycle(60L), 0);
    }

    private static void pointsBeforeAreGone() {
        WatchRows2 x = watch(0, 9);
        x.point(1, 1, 0L);
        x.reset(0);
        Due.is("2 is none for the beginning", x.point(1, 2, 0L), 2);
        x.reset(0);
        Due.is("1 is one", x.point(1, 1, 0L), 0);
    }

    private static void modeIsZero() {
        WatchRows2 x = watch(0, 9);
        x.mode(3);
        x.reset(0);
        Due.is("mode(0)", x.mode(0), 0);
        Due.is("an edge of mode 0 is known", x.edge(1, 0, 1), 0);
    }

    private static void questionBeginsAgain() {
        WatchRows2 x = new WatchRows2();
        x.answer(0, 10L, 10L);
        x.answer(1, 9L, 10L);
        x.answer(2, 12L, 10L);
        x.answer(3, 3L, 10L);
        x.answer(1, 0L, 10L);
        x.answer(0, 5L, 10L);
        Due.is("q", x.reset(3), 3);
        Due.is("errors", x.reset(4), 1);
        x.reset(0);
        Due.is("q then", x.reset(3), 0);
        Due.is("errors then", x.reset(4), 0);
        Due.is("step 0 is next", x.answer(0, 10L, 10L), 1);
    }

    private static void edgesAndDeadlinesStay() {
        WatchRows2 x = watch(0, 9);
        x.mode(2);
        x.edge(1, 0, 8);
        x.reset(0);
        Due.is("an edge of mode 0", x.edge(1, 1, 2), 0);
        x.mode(2);
        Due.is("an edge of mode 2", x.edge(1, 0, 8), 0);
        x.mode(0);
        x.point(1, 1, 0L);
        Due.is("the deadline runs", x.cycle(10L), 1);
        Due.is("another part's number", x.part(0, 1, 1L), 2);
    }

    private static void timesStay() {
        WatchRows2 x = new WatchRows2();
        x.cycle(60L);
        x.reset(0);
        Due.is("an earlier time", x.outer(59L), -2);
        Due.is("100 behind the reset", x.outer(160L), 1);
    }

    private static void ranges() {
        int[] due = {-2, 1, 0, 0, 3, 1, 2, -2};
        for (int what = -1; what <= 6; what++) {
            Run run = new Run("reset(" + what + ")").due("answer(0, 10, 10) 1; answer(1, 9, 10) 1; "
                    + "answer(2, 12, 10) 1; answer(3, 3, 10) 1");
            run.due("answer(1, 0, 10) 0; cycle(10) 0 *2; reset(%d) %d", what, due[what + 1]);
            run.due(what == 0 ? "reset(1) 1; reset(2) 4; reset(3) 0; reset(4) 0; reset(5) 0"
                    : "reset(1) 0; reset(2) 0; reset(3) 3; reset(4) 1; reset(5) 2");
        }
    }
}
