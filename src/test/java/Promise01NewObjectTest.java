public final class Promise01NewObjectTest {
    public static void main(String[] args) {
        noParts();
        everythingAtItsBeginning();
        objectsShareNothing();
        noPartOfAnyNumber();
        timesBeginWithZero();
        Due.end();
    }

    private static void noParts() {
        WatchRows2 x = new WatchRows2();
        Due.is("state(1)", x.state(1), -1);
        Due.is("point(1, 1, 0)", x.point(1, 1, 0L), -1);
        Due.is("edge(1, 0, 1)", x.edge(1, 0, 1), -1);
        Due.is("deadline(1, 1, 2, 0, 1)", x.deadline(1, 1, 2, 0L, 1L), -1);
        Due.is("tolerance(1, 0)", x.tolerance(1, 0), -1);
        Due.is("cycle(0) without parts", x.cycle(0L), 0);
    }

    private static void everythingAtItsBeginning() {
        WatchRows2 x = new WatchRows2();
        Due.is("reset(1)", x.reset(1), 0);
        Due.is("reset(2)", x.reset(2), 0);
        Due.is("reset(3)", x.reset(3), 0);
        Due.is("reset(4)", x.reset(4), 0);
        Due.is("reset(5)", x.reset(5), 0);
        Due.is("mode(0)", x.mode(0), 0);
    }

    private static void objectsShareNothing() {
        WatchRows2 x = new WatchRows2();
        WatchRows2 y = new WatchRows2();
        Due.is("part of one", x.part(0, 1, 1L), 1);
        Due.is("reset of one", x.reset(0), 1);
        Due.is("state(1) of another", y.state(1), -1);
        Due.is("reset(1) of another", y.reset(1), 0);
        Due.is("part of another", y.part(0, 1, 1L), 1);
    }

    private static void noPartOfAnyNumber() {
        for (int part : new int[] {Integer.MIN_VALUE, -1, 0, 1, 2, 19, 20, 21, Integer.MAX_VALUE}) {
            Run run = new Run("part " + part).due("state(%d) -1; edge(%d, 0, 1) -1; point(%d, 1, 0) -1", part, part, part);
            run.due("deadline(%d, 1, 2, 0, 1) -1; tolerance(%d, 1) %d; part(0, 1, 1) 1", part, part, part == 0 ? 1 : -1);
        }
    }

    private static void timesBeginWithZero() {
        Run.of("cycle", "cycle(-1) -2; cycle(0) 0");
        Run.of("outer", "outer(-1) -2; outer(0) 1");
        Run.of("the outer watch's time", "outer(100) 1");
        Run.of("the outer watch's time, too late", "outer(101) 0");
        Run.of("the question's time", "answer(0, 10, 0) 1; answer(1, 9, 0) 1; answer(2, 12, 0) 1; answer(3, 3, 10) 1");
    }
}
