/** What the terms say of PARTS holds for each of 20, and for each of a part's 10 DEADLINES. */
public final class EveryPartTest {
    private static final int PARTS = 20;
    private static final int DEADLINES = 10;

    public static void main(String[] args) {
        for (int narrow = 1; narrow <= DEADLINES; narrow++) {
            lateDeadlines(narrow);
            endedDeadlines(narrow);
            deadlinesAreGone(narrow);
        }
        counts();
        pointsBefore();
        flaws();
        failures();
        expiredOnes();
        onePartAlone();
        Due.end();
    }

    /** The calls of a text for each part, whose number %1$d stands for. */
    private static Run each(Run run, String text) {
        for (int part = 1; part <= PARTS; part++) {
            run.due(text, part);
        }
        return run;
    }

    private static Run parts(String title, String limits) {
        Run run = each(new Run(title), "part(" + limits + ") %1$d");
        return each(run, "tolerance(%1$d, 1) 1");
    }

    /** Points 2 and 3 of each part, and ten deadlines, of which one alone ends before 100000. */
    private static Run withDeadlines(String title, int narrow) {
        Run run = each(parts(title + ", deadline " + narrow, "0, 1000, 100"), "edge(%1$d, 0, 2) 1; edge(%1$d, 2, 3) 1");
        for (int i = 1; i <= DEADLINES; i++) {
            each(run, "deadline(%1$d, 2, 3, 0, " + (i == narrow ? 9 : 100000) + ") " + i);
        }
        return each(run, "point(%1$d, 2, 0) 0");
    }

    private static void lateDeadlines(int narrow) {
        each(withDeadlines("late", narrow).due("cycle(9) 0; cycle(10) 1"), "state(%1$d) 1").due("cycle(11) 0");
    }

    private static void endedDeadlines(int narrow) {
        Run inTime = each(withDeadlines("ended in time", narrow), "point(%1$d, 3, 9) 0");
        each(inTime.due("cycle(9) 0; cycle(200000) 0"), "state(%1$d) 0");
        Run tooLate = each(withDeadlines("ended too late", narrow), "point(%1$d, 3, 10) 0");
        each(tooLate.due("cycle(10) 1"), "state(%1$d) 1").due("cycle(200000) 0");
    }

    private static void deadlinesAreGone(int narrow) {
        Run mode = withDeadlines("gone by another mode", narrow).due("mode(1) 0; mode(0) 1; cycle(200000) 0");
        each(mode, "state(%1$d) 0");
        each(withDeadlines("gone by a reset", narrow).due("reset(0) 1; cycle(200000) 0"), "state(%1$d) 0");
    }

    private static Run withAlivePoint(String title) {
        Run run = each(parts(title, "1, 1, 3"), "edge(%1$d, 0, 1) 1; edge(%1$d, 1, 1) 1");
        return each(run, "point(%1$d, 1, 0) 0");
    }

    private static void counts() {
        each(withAlivePoint("one").due("cycle(0) 0 *3"), "state(%1$d) 0");
        each(each(withAlivePoint("two"), "point(%1$d, 1, 0) 0").due("cycle(0) 0 *2; cycle(0) 1"), "state(%1$d) 1");
        each(withAlivePoint("gone by another mode").due("mode(3) 0; cycle(0) 0 *2; cycle(0) 1"), "state(%1$d) 1");
        each(withAlivePoint("gone by a reset").due("reset(0) 1; cycle(0) 0 *2; cycle(0) 1"), "state(%1$d) 1");
        each(withAlivePoint("begun again").due("cycle(0) 0 *3; cycle(0) 0 *2; cycle(0) 1"), "state(%1$d) 1");
    }

    private static void pointsBefore() {
        each(withDeadlines("a point before", 1), "point(%1$d, 3, 0) 0");
        each(withDeadlines("none behind another mode", 1).due("mode(1) 0; mode(0) 1"), "point(%1$d, 3, 0) 2");
        each(withDeadlines("none behind a reset", 1).due("reset(0) 1"), "point(%1$d, 3, 0) 2");
    }

    /** Each part's points 2 must be 10 behind one another, and are not. */
    private static Run withFlaw(String title) {
        Run run = each(parts(title, "0, 1000, 100"), "edge(%1$d, 0, 2) 1; edge(%1$d, 2, 2) 1; deadline(%1$d, 2, 2, 10, 99) 1");
        return each(each(run, "point(%1$d, 2, 0) 0"), "point(%1$d, 2, 9) 0");
    }

    private static void flaws() {
        each(each(withFlaw("a flaw"), "state(%1$d) 0").due("cycle(9) 1"), "state(%1$d) 1");
        each(withFlaw("gone by another mode").due("mode(2) 0; cycle(9) 0"), "state(%1$d) 0");
        each(withFlaw("gone by a reset").due("reset(0) 1; cycle(9) 0"), "state(%1$d) 0");
        each(withFlaw("of one cycle").due("cycle(9) 1; cycle(9) 0"), "state(%1$d) 0");
    }

    private static void failures() {
        Run more = each(withFlaw("one more than tolerated").due("tolerance(0, 1) 1; cycle(9) 1"), "point(%1$d, 2, 10) 1");
        each(more.due("cycle(10) 2"), "state(%1$d) 2");
        Run mode = each(withFlaw("stay in another mode").due("tolerance(0, 1) 1; cycle(9) 1; mode(1) 0; mode(0) 1"),
                "state(%1$d) 1; point(%1$d, 2, 10) 1; point(%1$d, 2, 10) 1");
        each(mode.due("cycle(10) 2"), "state(%1$d) 2");
        Run reset = each(withFlaw("gone by a reset").due("tolerance(0, 1) 1; cycle(9) 1; reset(0) 1"),
                "state(%1$d) 0; point(%1$d, 2, 10) 0; point(%1$d, 2, 10) 0");
        each(reset.due("cycle(10) 1"), "state(%1$d) 1");
    }

    private static void expiredOnes() {
        Run asked = each(parts("EXPIRED", "0, 9, 1"), "point(%1$d, 30, 0) 2");
        each(each(asked.due("mode(1) 0"), "state(%1$d) 2").due("reset(0) 1"), "state(%1$d) 0").due("cycle(0) 0");
        Run byCycle = each(parts("EXPIRED, then a cycle", "0, 9, 1"), "point(%1$d, 30, 0) 2");
        each(byCycle.due("cycle(0) 3"), "state(%1$d) 0").due("cycle(0) 0");
    }

    private static void onePartAlone() {
        for (int alone = 1; alone <= PARTS; alone++) {
            Run run = parts("part " + alone + " alone", "0, 9, 1").due("point(%1$d, 5, 0) 2", alone);
            for (int part = 1; part <= PARTS; part++) {
                run.due("state(%d) %d; edge(%d, 0, 5) 1", part, part == alone ? 2 : 0, part);
            }
        }
    }
}
