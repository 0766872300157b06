/** Terms: THE OUTER watch, and RESET 3. */
public final class TermsOuterTest {
    public static void main(String[] args) {
        behindTheBeginning();
        behindItsOwnTime();
        behindAReset();
        otherCallsTimesDoNotCount();
        tooLateIsAReset();
        refusedOnesChangeNothing();
        Due.end();
    }

    private static void behindTheBeginning() {
        for (long t : new long[] {0, 1, 99, 100, 101, 102, 1L << 32, (1L << 32) + 100L, 1L << 60}) {
            int due = t <= 100 ? 1 : 0;
            new Run("at " + t).due("outer(%d) %d; reset(1) %d; reset(2) %d", t, due, 1 - due, 3 - 3 * due);
        }
    }

    private static void behindItsOwnTime() {
        for (long t : new long[] {0, 99, 100, 101, 1L << 32}) {
            int due = t <= 100 ? 1 : 0;
            new Run(t + " behind").due("outer(70) 1; outer(%d) %d; reset(1) %d", 70 + t, due, 1 - due);
            new Run(t + " behind the second").due("outer(70) 1; outer(170) 1; outer(%d) %d; reset(1) %d", 170 + t, due, 1 - due);
        }
        Run run = new Run("always 100 behind");
        for (int i = 1; i <= 500; i++) {
            run.due("outer(%d) 1", 100 * i);
        }
        run.due("reset(1) 0; outer(50101) 0");
    }

    private static void behindAReset() {
        for (long t : new long[] {0, 99, 100, 101}) {
            int due = t <= 100 ? 1 : 0;
            new Run(t + " behind RESET 1").due("part(0, 9, 1) 1; point(1, 1, 500) 2; cycle(500) 3; outer(%d) %d", 500 + t, due);
            new Run(t + " behind RESET 2").due("answer(3, 3, 400) 0 *7; answer(3, 3, 500) 0; reset(2) 2; "
                    + "outer(%d) %d", 500 + t, due);
            new Run(t + " behind RESET 3").due("outer(500) 0; outer(%d) %d", 500 + t, due);
            new Run(t + " behind RESET 4").due("cycle(500) 0; reset(0) 1; outer(%d) %d", 500 + t, due);
        }
    }

    private static void otherCallsTimesDoNotCount() {
        String others = "part(0, 9, 1) 1; edge(1, 0, 2) 1; point(1, 2, 90) 0; cycle(90) 0; answer(0, 10, 90) 1; "
                + "mode(1) 0; answer(0, 0, 90) 0;";
        Run.of("100 behind the beginning", others, "outer(100) 1");
        Run.of("101 behind the beginning", others, "outer(101) 0");
        Run.of("only the outer call looks", others, "cycle(5000) 0; answer(0, 10, 5000) 1; reset(1) 0; outer(5000) 0; "
                + "reset(1) 1");
    }

    private static void tooLateIsAReset() {
        new Run("one behind the other").due("outer(101) 0; outer(202) 0; reset(1) 2; outer(302) 1; outer(403) 0; "
                + "reset(1) 3; reset(2) 3");
        new Run("all begins anew").due("part(0, 9, 1) 1; part(0, 9, 1) 2; mode(2) 0; cycle(0) 0; answer(3, 3, 0) 0; "
                + "point(2, 1, 0) 2"
                + "; outer(101) 0; state(1) 0; state(2) 0; mode(0) 0; reset(5) 0; reset(4) 0; reset(3) 0; reset(2) 3; "
                + "reset(1) 1");
    }

    private static void refusedOnesChangeNothing() {
        String refused = "outer(49) -2; outer(-1) -2; outer(long.min) -2; outer(2^60+1) -2; outer(long.max) -2; reset(1) 0;";
        Run.of("its time, 100 behind", "outer(50) 1;", refused, "outer(150) 1");
        Run.of("its time, 101 behind", "outer(50) 1;", refused, "outer(151) 0");
        Run.of("told times", "outer(50) 1;", refused, "cycle(49) -2; cycle(50) 0");
        Run.of("too late, but refused", "cycle(300) 0; outer(299) -2; outer(2^60+1) -2; reset(1) 0; reset(5) 1; "
                + "outer(300) 0; reset(1) 1");
    }
}
