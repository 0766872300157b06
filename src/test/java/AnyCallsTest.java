import java.util.Random;

/**
 * Long runs of calls with any arguments, drawn from fixed seeds: nothing but the document's
 * exception is thrown, and an object that never got the refused calls answers all others alike.
 */
public final class AnyCallsTest {
    private static final int RUNS = 3000;
    // Some arguments need a question of their own, and an object is used for 512 calls at most.
    private static final int CALLS = 400;
    private static final int THROWN = 1000000;
    private static final int[] ODD = {Integer.MIN_VALUE, -1, 0, 31, 32, 33, 101, 1001, Integer.MAX_VALUE};
    private static final long[] ODD_LONG = {Long.MIN_VALUE, -1L, 0L, 101L, 100001L, 1L << 32, 1L << 60,
        (1L << 60) + 1L, Long.MAX_VALUE};

    private final Random random;
    private final boolean tame;
    private long time = 0L;

    private AnyCallsTest(long seed) {
        random = new Random(seed);
        tame = seed % 2 == 0;
    }

    public static void main(String[] args) {
        for (long seed = 0; seed < RUNS; seed++) {
            new AnyCallsTest(seed).run();
        }
        Due.end();
    }

    private void run() {
        WatchRows2 x = new WatchRows2();
        WatchRows2 y = new WatchRows2();
        for (int i = 0; i < CALLS; i++) {
            int kind = random.nextInt(16);
            long[] a = arguments(kind, x);
            int got = call(x, kind, a);
            boolean known = got >= 0 || got == -1 || got == -2 || got == -4;
            Due.is("an answer of kind " + kind + " is a known one: " + got, known ? 1 : 0, 1);
            if (got >= 0 && got != THROWN) {
                Due.is("kind " + kind + " without the refused calls", call(y, kind, a), got);
            }
        }
    }

    private int number(int low, int high) {
        if (random.nextInt(tame ? 200 : 12) == 0) {
            return ODD[random.nextInt(ODD.length)];
        }
        return low + random.nextInt(high - low + 1);
    }

    private long time(int step) {
        if (random.nextInt(tame ? 200 : 12) == 0) {
            long odd = ODD_LONG[random.nextInt(ODD_LONG.length)];
            return tame && odd == 1L << 60 ? time : odd;
        }
        time += random.nextInt(step);
        return time;
    }

    private long amount(int low, int high) {
        if (random.nextInt(tame ? 200 : 12) == 0) {
            return ODD_LONG[random.nextInt(ODD_LONG.length)];
        }
        return low + random.nextInt(high - low + 1);
    }

    private long[] arguments(int kind, WatchRows2 x) {
        switch (kind) {
            case 0:
                return new long[] {number(0, 2), number(1, 5), amount(0, 4)};
            case 1:
            case 2:
            case 3:
                return new long[] {number(1, 4), number(0, 4), number(1, 4)};
            case 4:
                return new long[] {number(1, 4), number(1, 4), number(1, 4), amount(0, 5), amount(3, 30)};
            case 5:
            case 6:
            case 7:
            case 8:
                return new long[] {number(1, 4), number(1, 4), time(4)};
            case 9:
            case 10:
                return new long[] {time(4)};
            case 11:
                return new long[] {number(0, 4), number(0, 5)};
            case 12:
                int step = number(0, 3);
                long right = ((5 * x.reset(3) + 3 * step) ^ 10) % 16;
                return new long[] {step, random.nextInt(3) == 0 ? amount(0, 15) : right, time(4)};
            case 13:
                return new long[] {random.nextInt(4) == 0 ? number(0, 3) : 0};
            case 14:
                return new long[] {random.nextInt(4) == 0 ? number(0, 5) : number(1, 5)};
            default:
                return new long[] {random.nextBoolean() ? time(4) : -1L, number(0, 21)};
        }
    }

    private static int call(WatchRows2 x, int kind, long[] a) {
        switch (kind) {
            case 0:
                return callPart(x, a);
            case 1:
            case 2:
            case 3:
                return x.edge((int) a[0], (int) a[1], (int) a[2]);
            case 4:
                return x.deadline((int) a[0], (int) a[1], (int) a[2], a[3], a[4]);
            case 5:
            case 6:
            case 7:
            case 8:
                return x.point((int) a[0], (int) a[1], a[2]);
            case 9:
            case 10:
                return x.cycle(a[0]);
            case 11:
                return x.tolerance((int) a[0], (int) a[1]);
            case 12:
                return x.answer((int) a[0], a[1], a[2]);
            case 13:
                return x.mode((int) a[0]);
            case 14:
                return x.reset((int) a[0]);
            default:
                return a[0] < 0 ? x.state((int) a[1]) : x.outer(a[0]);
        }
    }

    private static int callPart(WatchRows2 x, long[] a) {
        try {
            return x.part((int) a[0], (int) a[1], a[2]);
        } catch (ArithmeticException thrown) {
            Due.is("the span of a part that throws", a[2], 0L);
            return THROWN;
        }
    }
}
