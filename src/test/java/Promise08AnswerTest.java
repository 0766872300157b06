public final class Promise08AnswerTest {
    public static void main(String[] args) {
        refusals();
        allQuestions();
        writtenOutAnswers();
        timesOfTheFourth();
        earlierStepsHaveNoTime();
        wrongOnes();
        errorsLess();
        eightErrors();
        timeCountsFromAReset();
        ranges();
        Due.end();
    }

    private static long right(int q, int step) {
        return ((5 * q + 3 * step) ^ 10) % 16;
    }

    /** The steps of one question, the last at the given time: its answer. */
    private static int round(WatchRows2 x, long t) {
        int q = x.reset(3);
        for (int step = 0; step < 3; step++) {
            Due.is("a right step", x.answer(step, right(q, step), t), 1);
        }
        return x.answer(3, right(q, 3), t);
    }

    private static void refusals() {
        WatchRows2 x = new WatchRows2();
        Due.is("step -1", x.answer(-1, 10L, 0L), -2);
        Due.is("step 4", x.answer(4, 10L, 0L), -2);
        Due.is("step MAX", x.answer(Integer.MAX_VALUE, 10L, 0L), -2);
        Due.is("time -1", x.answer(0, 10L, -1L), -2);
        Due.is("time above 2^60", x.answer(0, 10L, (1L << 60) + 1L), -2);
        Due.is("no errors by refusals", x.reset(4), 0);
        Due.is("step 4 at 60 is not told", x.answer(4, 10L, 60L), -2);
        Due.is("step 0", x.answer(0, 10L, 5L), 1);
        Due.is("an earlier time", x.answer(1, 9L, 4L), -2);
        Due.is("step 1 is still next", x.answer(1, 9L, 5L), 1);
        Due.is("time 2^60", x.answer(2, 12L, 1L << 60), 1);
    }

    private static void allQuestions() {
        WatchRows2 x = new WatchRows2();
        int q = 0;
        for (int i = 1; i <= 40; i++) {
            Due.is("a round", round(x, 10L * i), 1);
            q = (7 * q + 3) % 16;
            Due.is("q", x.reset(3), q);
        }
        Due.is("errors", x.reset(4), 0);
    }

    private static void writtenOutAnswers() {
        WatchRows2 x = new WatchRows2();
        long[] due = {10, 9, 12, 3, 5, 8, 15, 2, 2, 1, 4, 11};
        for (int i = 0; i < due.length; i++) {
            Due.is("answer " + i, x.answer(i % 4, due[i], 10L * (i / 4 + 1)), 1);
        }
        Due.is("q", x.reset(3), 11);
    }

    private static void timesOfTheFourth() {
        for (long t : new long[] {0L, 9L, 51L, 1000L}) {
            WatchRows2 x = new WatchRows2();
            Due.is("a fourth at " + t, round(x, t), 0);
            Due.is("errors", x.reset(4), 1);
            Due.is("q", x.reset(3), 0);
        }
        for (long t : new long[] {10L, 50L}) {
            WatchRows2 x = new WatchRows2();
            Due.is("a fourth at " + t, round(x, t), 1);
            Due.is("a fourth 9 behind", round(x, t + 9L), 0);
            Due.is("a fourth 50 behind", round(x, t + 59L), 1);
            Due.is("a fourth 51 behind", round(x, t + 110L), 0);
            Due.is("a fourth 10 behind", round(x, t + 120L), 1);
        }
    }

    private static void earlierStepsHaveNoTime() {
        WatchRows2 x = new WatchRows2();
        Due.is("step 0 at 1000", x.answer(0, 10L, 1000L), 1);
        Due.is("step 1 at 2000", x.answer(1, 9L, 2000L), 1);
        Due.is("step 2 at 3000", x.answer(2, 12L, 3000L), 1);
        Due.is("step 3 at 3010", x.answer(3, 3L, 3010L), 0);
    }

    private static void wrongOnes() {
        WatchRows2 x = new WatchRows2();
        Due.is("not the next step", x.answer(1, 9L, 5L), 0);
        Due.is("step 0", x.answer(0, 10L, 5L), 1);
        Due.is("not right", x.answer(1, 8L, 6L), 0);
        Due.is("right, but 0 is next", x.answer(1, 9L, 7L), 0);
        Due.is("right modulo 16 alone", x.answer(0, 26L, 7L), 0);
        Due.is("right in its low 32 bits alone", x.answer(0, (1L << 32) + 10L, 7L), 0);
        Due.is("a negative one", x.answer(0, -6L, 8L), 0);
        Due.is("errors", x.reset(4), 6);
        Due.is("9 behind the last wrong one", round(x, 17L), 0);
        Due.is("errors then", x.reset(4), 7);
        Due.is("10 behind it", round(x, 27L), 1);
    }

    private static void errorsLess() {
        WatchRows2 x = new WatchRows2();
        x.answer(3, 0L, 0L);
        x.answer(3, 0L, 0L);
        int[] left = {1, 0, 0};
        for (int i = 0; i < left.length; i++) {
            Due.is("a round", round(x, 10L * (i + 1)), 1);
            Due.is("errors", x.reset(4), left[i]);
        }
    }

    private static void eightErrors() {
        WatchRows2 x = new WatchRows2();
        round(x, 10L);
        for (int i = 1; i < 8; i++) {
            Due.is("a wrong one", x.answer(2, 0L, 10L), 0);
            Due.is("errors", x.reset(4), i);
            Due.is("no reset yet", x.reset(1), 0);
        }
        Due.is("q before", x.reset(3), 3);
        Due.is("the eighth", x.answer(2, 0L, 60L), 0);
        Due.is("errors", x.reset(4), 0);
        Due.is("resets", x.reset(1), 1);
        Due.is("the reason", x.reset(2), 2);
        Due.is("q", x.reset(3), 0);
        Due.is("the outer watch counts from then", x.outer(160L), 1);
    }

    private static void timeCountsFromAReset() {
        WatchRows2 x = new WatchRows2();
        x.cycle(100L);
        x.answer(0, 10L, 100L);
        x.reset(0);
        Due.is("step 1 is not next", x.answer(1, 9L, 100L), 0);
        x.cycle(200L);
        x.reset(0);
        Due.is("9 behind", round(x, 209L), 0);
        x.reset(0);
        Due.is("50 behind", round(x, 259L), 1);
    }

    private static void ranges() {
        for (int step : new int[] {Integer.MIN_VALUE, -1, 0, 1, 3, 4, Integer.MAX_VALUE}) {
            for (long t : new long[] {Long.MIN_VALUE, -1L, 0L, 6L, 7L, 8L, 1L << 60, (1L << 60) + 1L, Long.MAX_VALUE}) {
                boolean allowed = step >= 0 && step <= 3 && t >= 7L && t <= 1L << 60;
                int due = !allowed ? -2 : step == 0 ? 1 : 0;
                Run run = new Run("at 7").due("cycle(7) 0").due(Call.of("answer", due, step, 10, t));
                run.due("reset(4) %d; reset(3) 0", due == 0 ? 1 : 0).due(Call.of("cycle", allowed && t > 7L ? -2 : 0, 7));
            }
        }
    }
}
