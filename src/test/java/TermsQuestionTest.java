/** Terms: THE QUESTION, its answers, their times, and RESET 2. */
public final class TermsQuestionTest {
    /** The numbers that q becomes one behind the other, and the right values of their four steps. */
    private static final int[] NUMBERS = {0, 3, 8, 11};
    private static final long[][] RIGHT = {{10, 9, 12, 3}, {5, 8, 15, 2}, {2, 1, 4, 11}, {13, 0, 7, 10}};

    public static void main(String[] args) {
        numbersOneBehindTheOther();
        oneValueIsRight();
        oneStepIsNext();
        steps();
        timeOfStepThree();
        timeFromAWrongOne();
        timeFromAReset();
        otherStepsHaveNoTime();
        otherCallsTimesDoNotCount();
        errorsMoreAndLess();
        eightErrors();
        aWrongOneChangesNoNumber();
        refusedOnesChangeNothing();
        Due.end();
    }

    /** Steps 0 to 2 of the n-th question, right, at a time. */
    private static Run threeSteps(Run run, int n, long t) {
        for (int step = 0; step < 3; step++) {
            run.due("answer(%d, %d, %d) 1", step, RIGHT[n % 4][step], t);
        }
        return run;
    }

    private static Run round(Run run, int n, long t, int due) {
        return threeSteps(run, n, t).due("answer(3, %d, %d) %d", RIGHT[n % 4][3], t, due);
    }

    private static Run behindRounds(String title, int rounds) {
        Run run = new Run(title);
        for (int n = 0; n < rounds; n++) {
            round(run, n, 10L * n + 10L, 1);
        }
        return run;
    }

    private static void numbersOneBehindTheOther() {
        Run run = new Run("q").due("reset(3) 0");
        for (int n = 0; n < 60; n++) {
            round(run, n, 10L * n + 10L, 1).due("reset(3) %d; reset(4) 0", NUMBERS[(n + 1) % 4]);
        }
    }

    private static void oneValueIsRight() {
        for (int n = 0; n < 5; n++) {
            for (int step = 0; step <= 3; step++) {
                for (long v = -17; v <= 33; v++) {
                    value(n, step, v);
                }
                long right = RIGHT[n % 4][step];
                value(n, step, right + (1L << 32));
                value(n, step, right + (1L << 60));
                value(n, step, right | Long.MIN_VALUE);
                value(n, step, Long.MAX_VALUE);
            }
        }
    }

    private static void value(int n, int step, long v) {
        boolean right = v == RIGHT[n % 4][step];
        Run run = behindRounds("value " + v + " of step " + step + ", q " + NUMBERS[n % 4], n);
        for (int before = 0; before < step; before++) {
            run.due("answer(%d, %d, %d) 1", before, RIGHT[n % 4][before], 10 * n + 10);
        }
        run.due("answer(%d, %d, %d) %d; reset(4) %d", step, v, 10 * n + 10, right ? 1 : 0, right ? 0 : 1);
        run.due("reset(3) %d", NUMBERS[(right && step == 3 ? n + 1 : n) % 4]);
    }

    private static void oneStepIsNext() {
        for (int next = 0; next <= 3; next++) {
            for (int step = 0; step <= 3; step++) {
                Run run = new Run("step " + step + " where " + next + " is next");
                for (int before = 0; before < next; before++) {
                    run.due("answer(%d, %d, 10) 1", before, RIGHT[0][before]);
                }
                run.due("answer(%d, %d, 10) %d; reset(4) %d", step, RIGHT[0][step], step == next ? 1 : 0, step == next ? 0 : 1);
                if (step != next) {
                    round(run, 0, 20L, 1).due("reset(3) 3; reset(4) 0");
                }
            }
        }
    }

    private static void steps() {
        new Run("no such step").due("answer(-1, 10, 0) -2; answer(4, 10, 0) -2; answer(int.min, 10, 0) -2; "
                + "answer(int.max, 10, 0) -2"
                + "; reset(4) 0; answer(0, 10, 0) 1; answer(4, 9, 0) -2; answer(-1, 9, 0) -2; answer(1, 9, 0) 1");
    }

    private static void timeOfStepThree() {
        for (long t : new long[] {0, 1, 9, 10, 11, 49, 50, 51, 100, (1L << 32) + 20L, 1L << 60}) {
            int due = t >= 10 && t <= 50 ? 1 : 0;
            round(new Run("step 3 at " + t), 0, t, due).due("reset(3) %d; reset(4) %d", due == 1 ? 3 : 0, 1 - due);
            if (t <= 100) {
                round(behindRounds("step 3 " + t + " behind a right one", 1), 1, 10 + t, due).due("reset(4) %d", 1 - due);
                round(behindRounds("step 3 " + t + " behind the third right one", 3), 3, 30 + t, due).due("reset(4) %d", 1 - due);
            }
        }
    }

    private static void timeFromAWrongOne() {
        for (long t : new long[] {0, 9, 10, 50, 51}) {
            int due = t >= 10 && t <= 50 ? 1 : 0;
            round(new Run(t + " behind a wrong step").due("answer(1, 9, 40) 0"), 0, 40 + t, due).due("reset(4) %d", 2 - 2 * due);
            round(new Run(t + " behind a wrong value").due("answer(0, 11, 40) 0"), 0, 40 + t, due).due("reset(4) %d", 2 - 2 * due);
            Run early = round(new Run(t + " behind one too early"), 0, 9L, 0);
            round(early, 0, 9 + t, due).due("reset(4) %d", 2 - 2 * due);
            Run late = round(new Run(t + " behind one too late"), 0, 51L, 0);
            round(late, 0, 51 + t, due).due("reset(4) %d", 2 - 2 * due);
        }
    }

    private static void timeFromAReset() {
        for (long t : new long[] {0, 9, 10, 50, 51}) {
            int due = t >= 10 && t <= 50 ? 1 : 0;
            round(new Run(t + " behind RESET 1").due("part(0, 9, 1) 1; point(1, 1, 70) 2; cycle(70) 3"), 0, 70 + t, due);
            round(new Run(t + " behind RESET 2").due("answer(3, 3, 60) 0 *7; answer(3, 3, 70) 0; reset(2) 2"), 0, 70 + t, due);
            round(new Run(t + " behind RESET 3").due("outer(170) 0"), 0, 170 + t, due);
            round(new Run(t + " behind RESET 4").due("cycle(70) 0; reset(0) 1"), 0, 70 + t, due);
        }
    }

    private static void otherStepsHaveNoTime() {
        new Run("late steps").due("answer(0, 10, 51) 1; answer(1, 9, 200) 1; answer(2, 12, 2^60) 1; reset(4) 0");
        new Run("early steps").due("answer(0, 10, 0) 1; answer(1, 9, 0) 1; answer(2, 12, 0) 1; answer(3, 3, 10) 1");
        new Run("steps do not begin the time").due("answer(0, 10, 45) 1; answer(1, 9, 45) 1; answer(2, 12, 45) 1; "
                + "answer(3, 3, 51) 0");
        new Run("steps do not begin the time, early").due("answer(0, 10, 5) 1; answer(1, 9, 6) 1; answer(2, 12, 9) 1; "
                + "answer(3, 3, 10) 1");
    }

    private static void otherCallsTimesDoNotCount() {
        String others = "part(0, 9, 1) 1; edge(1, 0, 2) 1; point(1, 2, 45) 0; cycle(45) 0; outer(45) 1; mode(1) 0";
        round(Run.of("50 behind the beginning", others), 0, 50L, 1);
        round(Run.of("51 behind the beginning", others), 0, 51L, 0);
    }

    private static void errorsMoreAndLess() {
        new Run("none to take off").due("reset(4) 0");
        round(new Run("0 stays 0"), 0, 10L, 1).due("reset(4) 0; answer(1, 0, 10) 0; reset(4) 1");
        round(new Run("1 becomes 0").due("answer(3, 3, 0) 0"), 0, 10L, 1).due("reset(4) 0; answer(3, 3, 10) 0 *7; "
                + "reset(1) 0; reset(4) 7");
        Run run = new Run("7 become 0").due("answer(3, 3, 0) 0 *7; reset(4) 7");
        for (int n = 0; n < 8; n++) {
            threeSteps(run, n, 10L * n + 10L).due("reset(4) %d", Math.max(7 - n, 0));
            run.due("answer(3, %d, %d) 1; reset(4) %d; reset(1) 0", RIGHT[n % 4][3], 10 * n + 10, Math.max(6 - n, 0));
        }
    }

    private static void eightErrors() {
        new Run("seven").due("answer(3, 3, 0) 0 *7; reset(4) 7; reset(1) 0; reset(2) 0");
        new Run("eight").due("answer(3, 3, 0) 0 *8; reset(4) 0; reset(1) 1; reset(2) 2; answer(3, 3, 0) 0; reset(4) 1; "
                + "reset(1) 1");
        new Run("sixteen").due("answer(3, 3, 0) 0 *15; reset(1) 1; reset(4) 7; answer(3, 3, 0) 0; reset(1) 2; "
                + "reset(4) 0; reset(2) 2");
        Run less = round(new Run("seven, one less, one more").due("answer(3, 3, 0) 0 *7"), 0, 10L, 1);
        less.due("reset(4) 6; answer(3, 3, 10) 0; reset(4) 7; reset(1) 0; answer(3, 3, 10) 0; reset(4) 0; reset(1) 1");
        round(new Run("the eighth is too early").due("answer(3, 3, 0) 0 *7"), 0, 9L, 0).due("reset(1) 1; reset(2) 2; reset(4) 0");
        round(new Run("the eighth is too late").due("answer(3, 3, 0) 0 *7"), 0, 51L, 0).due("reset(1) 1; reset(2) 2; reset(4) 0");
        new Run("the eighth is not right").due("answer(0, 0, 0) 0 *7; answer(0, 10, 0) 1; answer(1, 8, 0) 0; "
                + "reset(1) 1; reset(2) 2");
    }

    private static void aWrongOneChangesNoNumber() {
        for (int n = 1; n < 4; n++) {
            Run run = behindRounds("q " + NUMBERS[n] + " stays", n);
            run.due("answer(3, 3, %d) 0 *7; reset(3) %d; answer(3, 3, %d) 0; reset(3) 0", 10 * n, NUMBERS[n], 10 * n);
        }
        round(behindRounds("the same question again", 1), 1, 19L, 0).due("reset(3) 3; answer(0, 5, 19) 1");
    }

    private static void refusedOnesChangeNothing() {
        String refused = "answer(3, 3, 9) -2; answer(0, 0, -1) -2; answer(4, 0, 10) -2; answer(-1, 0, 10) -2; "
                + "answer(1, 9, 2^60+1) -2;";
        Run.of("steps", "cycle(10) 0; answer(0, 10, 10) 1;", refused, "answer(1, 9, 10) 1;", refused, "answer(2, 12, 10) 1;", refused,
                "answer(3, 3, 10) 1; reset(3) 3; reset(4) 0;", refused, "reset(3) 3; reset(4) 0");
        Run.of("errors", "cycle(10) 0; answer(3, 3, 10) 0 *7;", refused, "reset(4) 7; reset(1) 0; answer(3, 3, 10) 0; "
                + "reset(1) 1");
        round(Run.of("the time", "answer(1, 0, 20) 0; answer(1, 0, 19) -2; answer(4, 0, 25) -2; "
                + "answer(0, 0, 2^60+1) -2"), 0, 30L, 1);
    }
}
