public final class Promise12StateTest {
    public static void main(String[] args) {
        refusals();
        statesOfParts();
        askingChangesNothing();
        ranges();
        Due.end();
    }

    private static void refusals() {
        WatchRows2 x = new WatchRows2();
        Due.is("no part yet", x.state(1), -1);
        x.part(0, 1, 1L);
        Due.is("state(0)", x.state(0), -1);
        Due.is("state(-1)", x.state(-1), -1);
        Due.is("state(2)", x.state(2), -1);
        Due.is("state(MIN)", x.state(Integer.MIN_VALUE), -1);
        Due.is("state(MAX)", x.state(Integer.MAX_VALUE), -1);
        Due.is("state(1)", x.state(1), 0);
    }

    private static void statesOfParts() {
        WatchRows2 x = new WatchRows2();
        x.part(0, 1, 1L);
        x.part(1, 1, 3L);
        x.part(1, 1, 3L);
        x.tolerance(2, 1);
        x.tolerance(0, 100);
        x.cycle(0L);
        x.cycle(0L);
        Due.is("the global state", x.cycle(0L), 2);
        Due.is("OK", x.state(1), 0);
        Due.is("FAILED", x.state(2), 1);
        Due.is("EXPIRED", x.state(3), 2);
        x.cycle(0L);
        Due.is("OK again", x.state(2), 0);
        Due.is("EXPIRED still", x.state(3), 2);
        x.point(1, 9, 0L);
        Due.is("EXPIRED by a point", x.state(1), 2);
    }

    private static void askingChangesNothing() {
        WatchRows2 x = new WatchRows2();
        x.part(0, 1, 1L);
        x.point(1, 9, 0L);
        Due.is("state(1)", x.state(1), 2);
        Due.is("state(1) again", x.state(1), 2);
        Due.is("the cycle", x.cycle(0L), 3);
    }

    private static void ranges() {
        for (int n = 0; n <= 20; n++) {
            Run run = new Run(n + " parts");
            for (int i = 1; i <= n; i++) {
                run.due("part(0, 1, 1) %d", i);
            }
            for (int part : new int[] {Integer.MIN_VALUE, -1, 0, 1, n - 1, n, n + 1, 20, 21, Integer.MAX_VALUE}) {
                run.due("state(%d) %d", part, part >= 1 && part <= n ? 0 : -1);
            }
        }
    }
}
