public final class Promise11OuterTest {
    public static void main(String[] args) {
        refusals();
        inTimeAndTooLate();
        itsOwnTimeCounts();
        tooLateIsAReset();
        largeTimes();
        ranges();
        Due.end();
    }

    private static void refusals() {
        WatchRows2 x = new WatchRows2();
        Due.is("outer(-1)", x.outer(-1L), -2);
        Due.is("outer(MIN)", x.outer(Long.MIN_VALUE), -2);
        Due.is("outer(2^60 + 1)", x.outer((1L << 60) + 1L), -2);
        Due.is("outer(MAX)", x.outer(Long.MAX_VALUE), -2);
        Due.is("no reset", x.reset(1), 0);
        Due.is("outer(0)", x.outer(0L), 1);
        Due.is("outer(50)", x.outer(50L), 1);
        Due.is("outer(49)", x.outer(49L), -2);
        Due.is("cycle(49)", x.cycle(49L), -2);
        Due.is("outer(150): the refused one was not told", x.outer(150L), 1);
    }

    private static void inTimeAndTooLate() {
        Due.is("100 behind the beginning", new WatchRows2().outer(100L), 1);
        Due.is("101 behind the beginning", new WatchRows2().outer(101L), 0);
        WatchRows2 x = new WatchRows2();
        Due.is("outer(70)", x.outer(70L), 1);
        Due.is("outer(170)", x.outer(170L), 1);
        Due.is("outer(170) again", x.outer(170L), 1);
        Due.is("outer(271)", x.outer(271L), 0);
        Due.is("100 behind the reset", x.outer(371L), 1);
    }

    private static void itsOwnTimeCounts() {
        WatchRows2 x = new WatchRows2();
        x.cycle(90L);
        x.answer(0, 10L, 95L);
        Due.is("others are not the outer watch", x.outer(101L), 0);
    }

    private static void tooLateIsAReset() {
        WatchRows2 x = new WatchRows2();
        x.part(0, 1, 1L);
        x.mode(2);
        x.cycle(0L);
        x.answer(3, 0L, 0L);
        x.point(1, 1, 0L);
        Due.is("too late", x.outer(101L), 0);
        Due.is("how many", x.reset(1), 1);
        Due.is("the reason", x.reset(2), 3);
        Due.is("state(1)", x.state(1), 0);
        Due.is("AGE", x.reset(5), 0);
        Due.is("errors", x.reset(4), 0);
        Due.is("mode", x.mode(0), 0);
        x.answer(0, 10L, 151L);
        x.answer(1, 9L, 151L);
        x.answer(2, 12L, 151L);
        Due.is("the question's time counts from it", x.answer(3, 3L, 151L), 1);
    }

    private static void largeTimes() {
        WatchRows2 x = new WatchRows2();
        Due.is("outer(2^32 + 1)", x.outer((1L << 32) + 1L), 0);
        Due.is("outer(2^60)", x.outer(1L << 60), 0);
        Due.is("outer(2^60) again", x.outer(1L << 60), 1);
        Due.is("resets", x.reset(1), 2);
    }

    private static void ranges() {
        for (long told : new long[] {0L, 7L, (1L << 32) + 7L, (1L << 60) - 100L, (1L << 60) - 99L, 1L << 60}) {
            for (long t : new long[] {-1L, 0L, told - 1L, told, told + 99L, told + 100L, told + 101L, 1L << 60, (1L << 60) + 1L, Long.MAX_VALUE}) {
                int due = t < told || t > 1L << 60 ? -2 : t > told + 100L ? 0 : 1;
                Run run = new Run("told " + told).due(Call.of("cycle", 0, told)).due("reset(0) 1").due(Call.of("outer", due, t));
                run.due("reset(1) %d; reset(2) %d", due == 0 ? 2 : 1, due == 0 ? 3 : 4);
            }
        }
    }
}
