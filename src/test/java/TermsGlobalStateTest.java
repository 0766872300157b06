/** Terms: THE GLOBAL STATE, its TOLERANCE, and RESET 1. */
public final class TermsGlobalStateTest {
    /** Part 1 FAILS when its points 2 are less than 10 apart; part 2 EXPIRES by any point. */
    private static final String PARTS = "part(0, 1000, 100) 1; part(0, 1000, 100) 2; tolerance(1, 100) 1; edge(1, 0, 2) 1"
            + "; edge(1, 2, 2) 1; deadline(1, 2, 2, 10, 100000) 1; point(1, 2, 0) 0;";

    public static void main(String[] args) {
        theWorstOfAll();
        toleranceIsZeroAtFirst();
        toleratedCycles();
        onlyCyclesCount();
        oneBehindTheOther();
        tolerancesToldLater();
        failedOnesNeverReset();
        anyPartCounts();
        Due.end();
    }

    private static void theWorstOfAll() {
        Run.of("no parts", "cycle(0) 0");
        Run.of("all OK", PARTS, "cycle(0) 0");
        Run.of("one FAILED", PARTS, "point(1, 2, 0) 0; cycle(0) 1");
        Run.of("one EXPIRED", PARTS, "tolerance(0, 1) 1; point(2, 2, 0) 2; cycle(0) 2");
        Run.of("one FAILED, one EXPIRED", PARTS, "tolerance(0, 1) 1; point(1, 2, 0) 0; point(2, 2, 0) 2; cycle(0) 2; "
                + "state(1) 1; state(2) 2");
        Run.of("the EXPIRED one first", "part(0, 9, 1) 1; part(1, 1, 3) 2; tolerance(2, 9) 1; tolerance(0, 9) 1; "
                + "point(1, 1, 0) 2",
                "cycle(0) 2 *3; state(1) 2; state(2) 1");
    }

    private static void toleranceIsZeroAtFirst() {
        Run.of("at first 0", PARTS, "point(2, 2, 0) 2; reset(1) 0; cycle(0) 3; reset(1) 1; reset(2) 1; state(2) 0; cycle(0) 0");
        Run.of("0 told", PARTS, "tolerance(0, 5) 1; tolerance(0, 0) 1; point(2, 2, 0) 2; cycle(0) 3");
    }

    private static void toleratedCycles() {
        for (int n : new int[] {0, 1, 2, 3, 99, 100}) {
            Run run = Run.of("a tolerance of " + n, PARTS).due("tolerance(0, %d) 1; point(2, 2, 0) 2", n);
            for (int i = 1; i <= n; i++) {
                run.due("cycle(0) 2; reset(1) 0; state(2) 2");
            }
            run.due("cycle(0) 3; reset(1) 1; reset(2) 1; reset(5) 0; state(2) 0; cycle(0) 0; reset(1) 1");
        }
    }

    private static void onlyCyclesCount() {
        Run.of("no other call", PARTS, "tolerance(0, 1) 1; point(2, 2, 0) 2 *5; outer(0) 1; answer(0, 10, 0) 1; "
                + "mode(1) 0; state(2) 2",
                "reset(1) 0; cycle(0) 2; point(2, 2, 0) 2; mode(2) 1; reset(1) 0; cycle(0) 3");
        Run.of("cycles before it was 2 do not count", PARTS, "tolerance(0, 1) 1; cycle(0) 0 *5; point(2, 2, 0) 2; "
                + "cycle(0) 2; cycle(0) 3");
    }

    private static void oneBehindTheOther() {
        Run.of("behind a reset by a cycle", PARTS, "tolerance(0, 2) 1; point(2, 2, 0) 2; cycle(0) 2 *2; cycle(0) 3; cycle(0) 0",
                "point(2, 2, 0) 2; cycle(0) 2 *2; cycle(0) 3; reset(1) 2");
        Run.of("with another cycle between", PARTS, "tolerance(0, 2) 1; point(2, 2, 0) 2; cycle(0) 2 *2; reset(0) 1; cycle(0) 0",
                "point(2, 2, 0) 2; cycle(0) 2 *2; cycle(0) 3; reset(1) 2");
        Run.of("a change of the mode does not part them", PARTS, "tolerance(0, 1) 1; point(2, 2, 0) 2; cycle(0) 2; "
                + "mode(1) 0; cycle(0) 3");
    }

    private static void tolerancesToldLater() {
        Run.of("a lower one", PARTS, "tolerance(0, 9) 1; point(2, 2, 0) 2; cycle(0) 2 *3; tolerance(0, 0) 1; "
                + "reset(1) 0; state(2) 2; cycle(0) 3");
        Run.of("a lower one, as many as there were", PARTS, "tolerance(0, 9) 1; point(2, 2, 0) 2; cycle(0) 2 *3; "
                + "tolerance(0, 4) 1",
                "cycle(0) 2; cycle(0) 3");
        Run.of("a higher one", PARTS, "tolerance(0, 1) 1; point(2, 2, 0) 2; cycle(0) 2; tolerance(0, 3) 1; "
                + "cycle(0) 2 *2; cycle(0) 3");
        Run.of("refused ones", PARTS, "tolerance(0, 1) 1; tolerance(0, 101) -2; tolerance(0, -1) -2; "
                + "tolerance(-1, 9) -1; tolerance(3, 9) -1",
                "point(2, 2, 0) 2; cycle(0) 2; cycle(0) 3");
        Run.of("a part's is not the global one", PARTS, "tolerance(2, 9) 1; tolerance(1, 9) 1; point(2, 2, 0) 2; cycle(0) 3");
        Run.of("the global one is not a part's", "part(1, 1, 1) 1; tolerance(0, 9) 1; cycle(0) 0 *2; cycle(0) 2; state(1) 2");
    }

    private static void failedOnesNeverReset() {
        Run run = Run.of("FAILED in many cycles", PARTS);
        for (int i = 0; i < 100; i++) {
            run.due("point(1, 2, 0) %d; cycle(0) 1", i == 0 ? 0 : 1);
        }
        run.due("reset(1) 0; state(1) 1; point(1, 2, 0) 1; cycle(0) 3");
    }

    private static void anyPartCounts() {
        for (int expired = 1; expired <= 20; expired++) {
            Run run = new Run("part " + expired + " of 20");
            for (int i = 1; i <= 20; i++) {
                run.due("part(0, 9, 1) %d", i);
            }
            run.due("tolerance(0, 1) 1; cycle(0) 0; point(%d, 5, 0) 2; cycle(0) 2; cycle(0) 3; state(%d) 0", expired, expired);
        }
        Run.of("one part behind another", "part(0, 9, 1) 1; part(0, 9, 1) 2; tolerance(0, 2) 1; point(1, 1, 0) 2; cycle(0) 2",
                "point(2, 1, 0) 2; cycle(0) 2; cycle(0) 3; state(1) 0; state(2) 0");
    }
}
