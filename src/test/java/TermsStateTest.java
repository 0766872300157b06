/** Terms: a PART's state, its FAILURES and its TOLERANCE. */
public final class TermsStateTest {
    /** Points 2 behind one another, each 10 at least behind the one before, or the part has a FLAW. */
    private static final String WATCHED = "part(0, 1000, 100) 1; edge(1, 0, 2) 1; edge(1, 2, 2) 1"
            + "; deadline(1, 2, 2, 10, 100000) 1; point(1, 2, 0) 0";

    public static void main(String[] args) {
        okAtFirst();
        toleranceIsZeroAtFirst();
        failuresUpToTheTolerance();
        failuresGoDownToZero();
        tolerancesToldLater();
        partsFailAlone();
        Due.end();
    }

    private static void okAtFirst() {
        Run.of("OK", "part(5, 5, 1) 1; state(1) 0; tolerance(1, 100) 1; state(1) 0; cycle(0) 0; state(1) 0");
    }

    private static void toleranceIsZeroAtFirst() {
        Run.of("EXPIRED by the first", WATCHED, "tolerance(0, 9) 1; point(1, 2, 9) 0; state(1) 0; cycle(9) 2; state(1) 2");
        Run.of("EXPIRED by the first, 0 told", WATCHED, "tolerance(1, 5) 1; tolerance(1, 0) 1; tolerance(0, 9) 1",
                "point(1, 2, 9) 0; cycle(9) 2; state(1) 2");
    }

    private static void failuresUpToTheTolerance() {
        for (int n : new int[] {0, 1, 2, 99, 100}) {
            Run run = Run.of("a tolerance of " + n, WATCHED, "tolerance(0, 1) 1").due("tolerance(1, %d) 1", n);
            for (int i = 1; i <= n; i++) {
                run.due("point(1, 2, 0) %d; state(1) %d; cycle(0) 1; state(1) 1", i == 1 ? 0 : 1, i == 1 ? 0 : 1);
            }
            run.due("point(1, 2, 0) %d; cycle(0) 2; state(1) 2", n == 0 ? 0 : 1);
        }
    }

    private static void failuresGoDownToZero() {
        for (int n : new int[] {1, 2, 3, 50}) {
            Run run = Run.of(n + " failures", WATCHED, "tolerance(1, 100) 1");
            for (int i = 1; i <= n; i++) {
                run.due("point(1, 2, 0) %d; cycle(0) 1", i == 1 ? 0 : 1);
            }
            for (int left = n - 1; left >= 1; left--) {
                run.due("cycle(0) 1; state(1) 1");
            }
            run.due("cycle(0) 0; state(1) 0; cycle(0) 0 *3; state(1) 0");
            run.due("tolerance(1, 1) 1; point(1, 2, 0) 0; cycle(0) 1; point(1, 2, 0) 1; cycle(0) 3");
        }
    }

    private static void tolerancesToldLater() {
        String twoFailures = "tolerance(1, 2) 1; point(1, 2, 0) 0; cycle(0) 1; point(1, 2, 0) 1; cycle(0) 1";
        Run.of("a lower one does not expire by itself", WATCHED, twoFailures, "tolerance(1, 0) 1; state(1) 1; cycle(0) 1",
                "cycle(0) 0; state(1) 0");
        Run.of("a lower one counts with the next failure", WATCHED, twoFailures, "tolerance(0, 9) 1; tolerance(1, 1) 1",
                "cycle(0) 1; state(1) 1; point(1, 2, 0) 1; cycle(0) 2; state(1) 2");
        Run.of("a higher one bears more", WATCHED, twoFailures, "tolerance(1, 3) 1; point(1, 2, 0) 1; cycle(0) 1",
                "point(1, 2, 0) 1; cycle(0) 3");
        Run.of("a higher one comes too late", WATCHED, "tolerance(0, 9) 1; point(1, 2, 0) 0; cycle(0) 2",
                "tolerance(1, 100) 1; state(1) 2; cycle(0) 2; point(1, 2, 100) 2; cycle(100) 2; state(1) 2");
    }

    private static void partsFailAlone() {
        Run.of("two parts", WATCHED, "part(0, 1000, 100) 2; tolerance(1, 1) 1; tolerance(2, 1) 1",
                "point(1, 2, 0) 0; cycle(0) 1; state(1) 1; state(2) 0; point(2, 2, 0) 2; state(1) 1; state(2) 2",
                "tolerance(0, 9) 1; cycle(0) 2; state(1) 0; state(2) 2");
    }
}
