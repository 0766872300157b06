public final class Promise03EdgeTest {
    public static void main(String[] args) {
        newAndKnown();
        refusals();
        edgesAreOfOnePart();
        edgesAreOfOneMode();
        edgesHaveADirection();
        allPairs();
        ranges();
        refusedOnesMakeNone();
        Due.end();
    }

    private static void newAndKnown() {
        WatchRows2 x = new WatchRows2();
        x.part(0, 1, 1L);
        Due.is("edge(1, 0, 1)", x.edge(1, 0, 1), 1);
        Due.is("edge(1, 0, 1) again", x.edge(1, 0, 1), 0);
        Due.is("edge(1, 0, 30)", x.edge(1, 0, 30), 1);
        Due.is("edge(1, 30, 30)", x.edge(1, 30, 30), 1);
        Due.is("edge(1, 30, 30) again", x.edge(1, 30, 30), 0);
        Due.is("edge(1, 30, 1)", x.edge(1, 30, 1), 1);
    }

    private static void refusals() {
        WatchRows2 x = new WatchRows2();
        x.part(0, 1, 1L);
        Due.is("edge(0, 0, 1)", x.edge(0, 0, 1), -1);
        Due.is("edge(2, 0, 1)", x.edge(2, 0, 1), -1);
        Due.is("edge(-1, 0, 1)", x.edge(-1, 0, 1), -1);
        Due.is("edge(MAX, 0, 1)", x.edge(Integer.MAX_VALUE, 0, 1), -1);
        Due.is("edge(2, 31, 0): the part comes first", x.edge(2, 31, 0), -1);
        Due.is("edge(1, -1, 1)", x.edge(1, -1, 1), -2);
        Due.is("edge(1, 31, 1)", x.edge(1, 31, 1), -2);
        Due.is("edge(1, 0, 0)", x.edge(1, 0, 0), -2);
        Due.is("edge(1, 0, -1)", x.edge(1, 0, -1), -2);
        Due.is("edge(1, 0, 31)", x.edge(1, 0, 31), -2);
        Due.is("edge(1, 0, 33), whose bit would be that of 1", x.edge(1, 0, 33), -2);
        Due.is("edge(1, MIN, MAX)", x.edge(1, Integer.MIN_VALUE, Integer.MAX_VALUE), -2);
        Due.is("edge(1, 0, 1) after refusals", x.edge(1, 0, 1), 1);
    }

    private static void edgesAreOfOnePart() {
        WatchRows2 x = new WatchRows2();
        x.part(0, 1, 1L);
        x.part(0, 1, 1L);
        Due.is("edge(1, 0, 5)", x.edge(1, 0, 5), 1);
        Due.is("edge(2, 0, 5)", x.edge(2, 0, 5), 1);
        Due.is("edge(2, 0, 6)", x.edge(2, 0, 6), 1);
        Due.is("point(1, 6, 0)", x.point(1, 6, 0L), 2);
        Due.is("point(2, 6, 0)", x.point(2, 6, 0L), 0);
    }

    private static void edgesAreOfOneMode() {
        WatchRows2 x = new WatchRows2();
        x.part(0, 9, 1L);
        for (int m = 0; m < 4; m++) {
            x.mode(m);
            Due.is("edge(1, 0, 5) in a mode of its own", x.edge(1, 0, 5), 1);
            Due.is("edge(1, 0, 5) again", x.edge(1, 0, 5), 0);
        }
        Due.is("edge(1, 5, 6) in mode 3", x.edge(1, 5, 6), 1);
        Due.is("point(1, 5) in mode 3", x.point(1, 5, 0L), 0);
        Due.is("point(1, 6) in mode 3", x.point(1, 6, 0L), 0);
        x.mode(2);
        Due.is("point(1, 5) in mode 2", x.point(1, 5, 0L), 0);
        Due.is("point(1, 6) in mode 2", x.point(1, 6, 0L), 2);
    }

    private static void edgesHaveADirection() {
        WatchRows2 x = new WatchRows2();
        x.part(0, 9, 1L);
        x.edge(1, 0, 2);
        x.edge(1, 2, 3);
        Due.is("point 2", x.point(1, 2, 0L), 0);
        Due.is("point 3", x.point(1, 3, 0L), 0);
        Due.is("point 2 behind 3", x.point(1, 2, 0L), 2);
    }

    /** An object is used for 512 calls at most, so each has either one "to" or one "from". */
    private static void allPairs() {
        for (int to = 1; to <= 30; to++) {
            newEdges(0, 30, to, to);
        }
        for (int from = 0; from <= 30; from++) {
            newEdges(from, from, 1, 30);
        }
    }

    private static void newEdges(int firstFrom, int lastFrom, int firstTo, int lastTo) {
        WatchRows2 x = new WatchRows2();
        x.part(0, 9, 1L);
        for (int m = 0; m < 4; m++) {
            x.mode(m);
            for (int from = firstFrom; from <= lastFrom; from++) {
                for (int to = firstTo; to <= lastTo; to++) {
                    Due.is("edge of each mode and pair", x.edge(1, from, to), 1);
                    Due.is("the same again", x.edge(1, from, to), 0);
                }
            }
        }
    }

    private static final int[] POINTS = {Integer.MIN_VALUE, -1, 0, 1, 2, 29, 30, 31, 32, 33, 64, Integer.MAX_VALUE};

    private static void ranges() {
        for (int part : new int[] {Integer.MIN_VALUE, -1, 0, 1, 2, 3, Integer.MAX_VALUE}) {
            for (int from : POINTS) {
                for (int to : POINTS) {
                    boolean known = part == 1 || part == 2;
                    boolean allowed = from >= 0 && from <= 30 && to >= 1 && to <= 30;
                    int due = !known ? -1 : allowed ? 1 : -2;
                    Run run = new Run("two parts").due("part(0, 1, 1) 1; part(0, 1, 1) 2");
                    run.due(Call.of("edge", due, part, from, to)).due(Call.of("edge", due == 1 ? 0 : due, part, from, to));
                }
            }
        }
    }

    private static void refusedOnesMakeNone() {
        for (int to = 1; to <= 30; to++) {
            Run run = new Run("refused ones, then the first point").due("part(0, 1, 1) 1; edge(1, -1, %d) -2; "
                    + "edge(1, 31, %d) -2", to, to);
            run.due("edge(2, 0, %d) -1; edge(0, 0, %d) -1; edge(1, 0, 0) -2; edge(1, 0, 31) -2; "
                    + "edge(1, 0, %d) -2", to, to, to + 32);
            run.due("edge(1, 0, %d) -2; point(1, %d, 0) 2; edge(1, 0, %d) 1", to - 32, to, to);
        }
    }
}
