/** An object is used for at most 512 calls: promises 2 to 12 still hold in the last of them. */
public final class LastCallTest {
    private static final int MOST_CALLS = 512;
    private static final long[][] RIGHT = {{10, 9, 12, 3}, {5, 8, 15, 2}, {2, 1, 4, 11}, {13, 0, 7, 10}};

    public static void main(String[] args) {
        behindCallsOfItsKind();
        behindRefusedCalls();
        counts();
        ages();
        points();
        resets();
        rightAnswers();
        wrongAnswers();
        outerWatch();
        Due.end();
    }

    /** Begins with some calls, goes on with one, and ends with the last that an object is used for. */
    private static void filled(String begin, String filler, String end) {
        Run run = new Run("to the last call, " + end).due(begin);
        int ends = Call.read(end).size();
        int begins = Call.read(begin).size();
        run.due(filler + " *" + (MOST_CALLS - begins - ends)).due(end);
    }

    private static void behindCallsOfItsKind() {
        filled("part(0, 1, 1) 1; part(0, 1, 1) 2", "part(0, 1, 0) throws", "part(0, 1, 1) 3");
        filled("part(0, 1, 1) 1", "part(0, 1, 0) throws", "part(0, 1, 0) throws");
        filled("part(0, 1, 1) 1; edge(1, 30, 30) 1", "edge(1, 30, 30) 0", "edge(1, 0, 30) 1");
        filled("part(0, 1, 1) 1; deadline(1, 1, 2, 0, 0) 1", "deadline(1, 0, 2, 0, 0) -2", "deadline(1, 1, 2, 0, 0) 2");
        filled("part(0, 1, 1) 1; edge(1, 0, 2) 1; edge(1, 2, 2) 1", "point(1, 2, 0) 0", "point(1, 3, 0) 2");
        filled("part(0, 1, 1) 1; tolerance(1, 0) 1", "tolerance(1, 100) 1", "tolerance(0, 100) 1");
        filled("mode(3) 0; mode(2) 3", "mode(2) 2", "mode(1) 2");
        filled("part(0, 1, 1) 1; point(1, 1, 0) 2", "state(1) 2", "state(1) 2");
        filled("part(0, 1, 1) 1; point(1, 1, 0) 2; tolerance(0, 100) 1", "reset(1) 0", "cycle(0) 2");
    }

    private static void behindRefusedCalls() {
        String[] refused = {"part(5, 4, 1) -2", "edge(1, 31, 1) -2", "deadline(2, 1, 1, 0, 0) -1", "point(1, 1, -1) -2",
            "cycle(2^60+1) -2", "tolerance(1, 101) -2", "answer(4, 10, 0) -2", "mode(4) -2", "reset(6) -2", "outer(-1) -2",
            "state(2) -1"};
        String[] last = {"part(0, 1, 1) 2", "edge(1, 0, 1) 1", "deadline(1, 1, 1, 0, 0) 1", "point(1, 1, 0) 2", "cycle(0) 0",
            "tolerance(1, 100) 1", "answer(0, 10, 0) 1", "mode(3) 0", "reset(0) 1", "outer(100) 1", "state(1) 0"};
        for (String filler : refused) {
            for (String end : last) {
                filled("part(0, 1, 1) 1", filler, end);
            }
        }
    }

    private static void counts() {
        String edges = "; tolerance(1, 1) 1; edge(1, 0, 1) 1; edge(1, 1, 1) 1";
        filled("part(505, 1000, 3) 1" + edges, "point(1, 1, 0) 0", "cycle(0) 0; cycle(0) 0; cycle(0) 0");
        filled("part(506, 1000, 3) 1" + edges, "point(1, 1, 0) 0", "cycle(0) 0; cycle(0) 0; cycle(0) 1");
        filled("part(0, 505, 3) 1" + edges, "point(1, 1, 0) 0", "cycle(0) 0; cycle(0) 0; cycle(0) 0");
        filled("part(0, 504, 3) 1" + edges, "point(1, 1, 0) 0", "cycle(0) 0; cycle(0) 0; cycle(0) 1");
    }

    private static void ages() {
        filled("reset(5) 0", "cycle(0) 0", "reset(5) 510");
        filled("cycle(0) 0", "cycle(0) 0", "part(1, 1, 51) 1; tolerance(1, 1) 1; cycle(0) 1");
        filled("cycle(0) 0", "cycle(0) 0", "part(1, 1, 50) 1; tolerance(1, 1) 1; cycle(0) 0");
    }

    private static void points() {
        Run run = Run.of("a deadline at each point", "part(0, 1000, 100) 1; edge(1, 0, 2) 1; edge(1, 2, 2) 1; "
                + "deadline(1, 2, 2, 9, 9) 1; tolerance(1, 1) 1");
        for (int i = 1; i <= 505; i++) {
            run.due("point(1, 2, %d) 0", 9 * i);
        }
        run.due("cycle(%d) 0; cycle(%d) 1", 9 * 506, 9 * 506 + 1);
    }

    private static void resets() {
        Run run = new Run("a reset with each call");
        for (int i = 1; i <= MOST_CALLS; i++) {
            run.due("reset(0) %d", i);
        }
    }

    private static void rightAnswers() {
        Run run = new Run("right ones");
        for (int i = 0; i < MOST_CALLS; i++) {
            run.due("answer(%d, %d, %d) 1", i % 4, RIGHT[i / 4 % 4][i % 4], 50 * (i / 4 + 1));
        }
    }

    private static void wrongAnswers() {
        filled("answer(0, 0, 0) 0", "answer(0, 0, 0) 0", "reset(1) 63");
        filled("answer(0, 0, 0) 0", "answer(0, 0, 0) 0", "reset(4) 7");
        filled("answer(0, 0, 0) 0", "answer(1, 9, 0) 0", "reset(2) 2");
    }

    private static void outerWatch() {
        for (int late = 0; late <= 1; late++) {
            Run run = new Run("always 100 behind, the last " + late + " more");
            for (int i = 1; i < MOST_CALLS; i++) {
                run.due("outer(%d) 1", 100 * i);
            }
            run.due("outer(%d) %d", 100 * MOST_CALLS + late, 1 - late);
        }
    }
}
