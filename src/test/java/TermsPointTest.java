/** Terms: a POINT of a PART at a time. */
public final class TermsPointTest {
    private static final String PART = "part(0, 1000, 100) 1; tolerance(1, 100) 1;";
    private static final String EDGES = PART + "edge(1, 0, 2) 1; edge(1, 2, 2) 1; edge(1, 2, 3) 1; edge(1, 3, 2) 1; "
            + "edge(1, 3, 3) 1;";

    public static void main(String[] args) {
        edgesFromTheBeginning();
        edgesFromThePointBefore();
        pointsBeforeAreOfOnePart();
        noEdgeExpiresAtOnce();
        expiredPartsPointsChangeNothing();
        leastAndMostOfDeadlines();
        deadlinesThatDoNotRun();
        deadlinesEndOnce();
        deadlinesEndBeforeTheyBegin();
        deadlinesBeginAnew();
        severalDeadlines();
        aFlawStays();
        aliveOnesAreCounted();
        refusedPointsChangeNothing();
        Due.end();
    }

    private static void edgesFromTheBeginning() {
        Run.of("no edges at all", PART, "point(1, 1, 0) 2; state(1) 2");
        Run.of("an edge from 0", PART, "edge(1, 0, 30) 1; point(1, 30, 0) 0");
        Run.of("an edge from 0 is for the first alone", PART, "edge(1, 0, 2) 1; point(1, 2, 0) 0; point(1, 2, 0) 2");
        Run.of("an edge from a point to itself is not for the first", PART, "edge(1, 2, 2) 1; point(1, 2, 0) 2");
        Run.of("an edge from 0 to another", PART, "edge(1, 0, 3) 1; edge(1, 0, 1) 1; point(1, 2, 0) 2");
        Run.of("0 again behind a reset", EDGES, "point(1, 2, 0) 0; point(1, 3, 0) 0; reset(0) 1; point(1, 3, 0) 2",
                "reset(0) 2; point(1, 2, 0) 0");
        Run.of("0 again behind a change of the mode", EDGES, "point(1, 2, 0) 0; mode(1) 0; mode(0) 1; point(1, 3, 0) 2");
        Run.of("not behind the same mode", EDGES, "point(1, 2, 0) 0; mode(0) 0; point(1, 3, 0) 0");
        Run.of("not behind a cycle", EDGES, "point(1, 2, 0) 0; cycle(0) 0; point(1, 3, 0) 0");
    }

    private static void edgesFromThePointBefore() {
        for (int from = 1; from <= 30; from++) {
            for (int to = 1; to <= 30; to += from % 2 == 0 ? 1 : 29) {
                Run run = new Run("from " + from + " to " + to).due(PART);
                run.due("edge(1, 0, %d) 1; edge(1, %d, %d) 1; point(1, %d, 0) 0", from, from, to, from);
                run.due("point(1, %d, 0) 0; point(1, %d, 0) %d", to, to, from == to ? 0 : 2);
            }
        }
        Run.of("a pair has a direction", PART, "edge(1, 0, 3) 1; edge(1, 2, 3) 1; point(1, 3, 0) 0; point(1, 2, 0) 2");
        Run.of("the one before, not one of before", EDGES, "edge(1, 2, 4) 1; point(1, 2, 0) 0; point(1, 3, 0) 0; "
                + "point(1, 4, 0) 2");
        Run.of("an edge told in between", EDGES, "point(1, 2, 0) 0; edge(1, 2, 9) 1; point(1, 9, 0) 0");
    }

    private static void pointsBeforeAreOfOnePart() {
        Run.of("two parts", "part(0, 1000, 100) 1; part(0, 1000, 100) 2; edge(1, 0, 2) 1; edge(1, 2, 3) 1",
                "edge(2, 0, 3) 1; edge(2, 3, 3) 1; point(1, 2, 0) 0; point(2, 3, 0) 0; point(1, 3, 0) 0; point(2, 3, 0) 0");
    }

    private static void noEdgeExpiresAtOnce() {
        Run.of("whatever the tolerance", EDGES, "point(1, 2, 0) 0; state(1) 0; point(1, 4, 0) 2; state(1) 2");
        Run.of("a FAILED part too", EDGES, "deadline(1, 2, 3, 5, 9) 1; point(1, 2, 0) 0; point(1, 3, 0) 0; cycle(0) 1",
                "point(1, 3, 0) 1; point(1, 4, 0) 2; state(1) 2");
    }

    private static void expiredPartsPointsChangeNothing() {
        Run.of("EXPIRED stays", EDGES, "tolerance(0, 100) 1; point(1, 3, 0) 2; point(1, 2, 0) 2; point(1, 3, 0) 2",
                "cycle(0) 2; point(1, 2, 0) 2; cycle(0) 2; state(1) 2; mode(1) 0; state(1) 2; edge(1, 0, 2) 1; point(1, 2, 0) 2");
        Run.of("its points tell the time", EDGES, "point(1, 3, 7) 2; point(1, 2, 9) 2; cycle(8) -2; point(1, 2, 8) -2");
        Run.of("its points can be refused", EDGES, "point(1, 3, 7) 2; point(1, 31, 7) -2; point(1, 0, 7) -2; point(2, 2, 7) -1");
        Run.of("its points leave nothing behind a reset", "part(0, 0, 3) 1; edge(1, 0, 1) 1; edge(1, 1, 1) 1",
                "deadline(1, 1, 2, 0, 5) 1; point(1, 2, 0) 2; point(1, 1, 0) 2; point(1, 1, 0) 2; reset(0) 1",
                "cycle(90) 0 *3; state(1) 0");
    }

    private static Run passed(long least, long most, long time) {
        Run run = new Run("a time of " + time + " of " + least + " to " + most).due(EDGES);
        run.due("deadline(1, 2, 3, %d, %d) 1; point(1, 2, 7) 0; point(1, 3, %d) 0", least, most, 7 + time);
        return run;
    }

    private static void leastAndMostOfDeadlines() {
        long[][] limits = {{0, 0}, {0, 1}, {1, 1}, {5, 9}, {9, 9}, {0, 100000}, {100000, 100000}, {99999, 100000}};
        for (long[] l : limits) {
            for (long time : new long[] {0L, l[0] - 1L, l[0], l[1], l[1] + 1L, (1L << 32) + l[0]}) {
                if (time >= 0L) {
                    int due = time < l[0] || time > l[1] ? 1 : 0;
                    passed(l[0], l[1], time).due("state(1) 0; cycle(%d) %d; state(1) %d", 7 + time, due, due);
                }
            }
        }
        Run.of("from time 0 to the last one", EDGES, "deadline(1, 2, 3, 0, 100000) 1; point(1, 2, 0) 0; point(1, 3, 2^60) 0",
                "cycle(2^60) 1; point(1, 2, 2^60) 1; point(1, 3, 2^60) 1; cycle(2^60) 0");
    }

    private static void deadlinesThatDoNotRun() {
        Run.of("its end without its beginning", EDGES, "edge(1, 0, 3) 1; deadline(1, 2, 3, 5, 9) 1; point(1, 3, 0) 0",
                "point(1, 3, 50) 0; cycle(50) 0");
        Run.of("told behind its beginning", EDGES, "point(1, 2, 0) 0; deadline(1, 2, 3, 5, 9) 1; point(1, 3, 0) 0; cycle(50) 0");
        Run.of("of a part that has no such point", EDGES, "part(0, 1000, 100) 2; tolerance(2, 9) 1; edge(2, 0, 2) 1",
                "deadline(1, 2, 3, 5, 9) 1; point(2, 2, 0) 0; cycle(50) 0");
        Run.of("the other way round", EDGES, "deadline(1, 3, 2, 5, 9) 1; point(1, 2, 0) 0; point(1, 3, 0) 0; cycle(0) 0",
                "point(1, 2, 4) 0; cycle(4) 1");
    }

    private static void deadlinesEndOnce() {
        Run.of("its end twice, the second too late", EDGES, "deadline(1, 2, 3, 5, 9) 1; point(1, 2, 0) 0; point(1, 3, 5) 0",
                "point(1, 3, 10) 0; cycle(10) 0; cycle(50) 0");
        Run.of("its end twice, the first too soon", EDGES, "deadline(1, 2, 3, 5, 9) 1; point(1, 2, 0) 0; point(1, 3, 4) 0",
                "cycle(4) 1; point(1, 3, 5) 1; cycle(5) 0; cycle(50) 0");
        Run.of("another point between does not end it", EDGES, "edge(1, 2, 4) 1; edge(1, 4, 3) 1; deadline(1, 2, 3, 5, 9) 1",
                "point(1, 2, 0) 0; point(1, 4, 3) 0; point(1, 3, 9) 0; cycle(9) 0",
                "point(1, 2, 10) 0; point(1, 4, 13) 0; point(1, 3, 20) 0; cycle(20) 1");
    }

    private static void deadlinesEndBeforeTheyBegin() {
        Run.of("from a point to itself", EDGES, "deadline(1, 2, 2, 5, 9) 1; point(1, 2, 0) 0; cycle(0) 0",
                "point(1, 2, 5) 0; cycle(5) 0; point(1, 2, 14) 0; cycle(14) 0; point(1, 2, 18) 0; cycle(18) 1",
                "point(1, 2, 23) 1; cycle(23) 0; cycle(32) 0; cycle(33) 1; point(1, 2, 60) 1; cycle(60) 0; "
                + "point(1, 2, 61) 0; cycle(61) 1");
        Run.of("from a point to itself at one time", EDGES, "deadline(1, 2, 2, 0, 0) 1; point(1, 2, 5) 0; point(1, 2, 5) 0",
                "cycle(5) 0; point(1, 2, 6) 0; cycle(6) 1");
    }

    private static void deadlinesBeginAnew() {
        Run.of("its beginning twice", EDGES, "deadline(1, 2, 3, 5, 9) 1; point(1, 2, 0) 0; point(1, 2, 6) 0; point(1, 3, 11) 0",
                "cycle(11) 0; point(1, 2, 20) 0; point(1, 2, 26) 0; point(1, 3, 30) 0; cycle(30) 1");
        Run.of("its beginning twice, the first too long ago", EDGES, "deadline(1, 2, 3, 0, 9) 1; point(1, 2, 0) 0",
                "point(1, 2, 50) 0; cycle(50) 0; cycle(59) 0; cycle(60) 1");
    }

    private static void severalDeadlines() {
        Run run = Run.of("ten that begin with one point", EDGES);
        for (int i = 1; i <= 10; i++) {
            run.due("deadline(1, 2, 3, 0, %d) %d", 10 + i, i);
        }
        run.due("point(1, 2, 0) 0; point(1, 3, 11) 0; cycle(11) 0; point(1, 2, 20) 0; point(1, 3, 32) 0; cycle(32) 1");
        Run.of("the tenth alone is broken", EDGES, "deadline(1, 9, 9, 0, 0) 1; deadline(1, 9, 9, 0, 0) 2; "
                + "deadline(1, 9, 9, 0, 0) 3",
                "deadline(1, 9, 9, 0, 0) 4; deadline(1, 9, 9, 0, 0) 5; deadline(1, 9, 9, 0, 0) 6; deadline(1, 9, 9, 0, 0) 7",
                "deadline(1, 9, 9, 0, 0) 8; deadline(1, 9, 9, 0, 0) 9; deadline(1, 2, 3, 5, 9) 10",
                "point(1, 2, 0) 0; point(1, 3, 4) 0; cycle(4) 1");
        Run.of("two that end with one point", EDGES, "deadline(1, 2, 3, 5, 9) 1; deadline(1, 3, 3, 0, 9) 2; point(1, 2, 0) 0",
                "point(1, 3, 5) 0; cycle(5) 0; point(1, 3, 15) 0; cycle(15) 1; cycle(24) 0; cycle(25) 1");
        Run.of("one to it, one from it", EDGES, "deadline(1, 2, 3, 5, 9) 1; deadline(1, 3, 2, 5, 9) 2; point(1, 2, 0) 0",
                "point(1, 3, 5) 0; point(1, 2, 10) 0; point(1, 3, 19) 0; cycle(19) 0; point(1, 2, 23) 0; cycle(23) 1");
    }

    private static void aFlawStays() {
        Run.of("a good end behind a bad one", EDGES, "deadline(1, 2, 3, 5, 9) 1; point(1, 2, 0) 0; point(1, 3, 4) 0",
                "point(1, 2, 10) 0; point(1, 3, 15) 0; cycle(15) 1; cycle(15) 0");
        Run.of("two bad ones are one failure", EDGES, "deadline(1, 2, 3, 5, 9) 1; point(1, 2, 0) 0; point(1, 3, 4) 0",
                "point(1, 2, 10) 0; point(1, 3, 11) 0; cycle(15) 1; cycle(15) 0");
        Run.of("a good deadline behind a bad one, one point", EDGES, "deadline(1, 2, 3, 5, 9) 1; deadline(1, 2, 3, 0, 9) 2",
                "point(1, 2, 0) 0; point(1, 3, 4) 0; cycle(4) 1");
    }

    private static void aliveOnesAreCounted() {
        for (int n : new int[] {0, 1, 2, 3, 399, 400, 401}) {
            int due = n < 2 || n > 400 ? 1 : 0;
            Run run = Run.of(n + " alive ones of 2 to 400", "part(2, 400, 3) 1; tolerance(1, 1) 1; edge(1, 0, 1) 1; "
                    + "edge(1, 1, 1) 1");
            for (int i = 0; i < n; i++) {
                run.due("point(1, 1, 0) 0");
            }
            run.due("cycle(0) 0 *2; cycle(0) %d; state(1) %d", due, due);
        }
        Run.of("a point with a flaw is counted", "part(2, 2, 3) 1; tolerance(1, 9) 1; edge(1, 0, 1) 1; edge(1, 1, 1) 1",
                "deadline(1, 1, 1, 5, 9) 1; point(1, 1, 0) 0; point(1, 1, 1) 0; cycle(1) 1; cycle(1) 0; cycle(1) 0");
    }

    private static void refusedPointsChangeNothing() {
        Run.of("the point before", EDGES, "point(1, 2, 5) 0; point(1, 31, 5) -2; point(1, 4, 4) -2; point(1, 4, 2^60+1) -2",
                "point(2, 4, 5) -1; state(1) 0; point(1, 3, 5) 0");
        Run.of("the count", "part(1, 1, 3) 1; tolerance(1, 9) 1; edge(1, 0, 1) 1; edge(1, 1, 1) 1; point(1, 1, 5) 0",
                "point(1, 1, 4) -2; point(1, 1, 2^60+1) -2; point(2, 1, 5) -1; cycle(5) 0 *3");
        Run.of("deadlines, not ended", EDGES, "deadline(1, 2, 3, 0, 9) 1; point(1, 2, 5) 0; point(1, 3, 4) -2; point(2, 3, 5) -1",
                "cycle(15) 1");
        Run.of("deadlines, not begun", EDGES, "deadline(1, 2, 3, 5, 9) 1; point(1, 2, 5) 0; point(1, 2, 4) -2",
                "point(1, 2, 2^60+1) -2; point(1, 3, 14) 0; cycle(14) 0");
    }
}
