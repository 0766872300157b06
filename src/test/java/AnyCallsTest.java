import java.util.Random;

/**
 * Long runs of calls with any arguments, drawn from fixed seeds: every answer is the model's, and an
 * object that never got the refused calls answers all the others alike.
 */
public final class AnyCallsTest {
    private static final int RUNS = 3000;
    private static final int CALLS = 512;
    private static final int[] ODD = {Integer.MIN_VALUE, -1, 0, 1, 30, 31, 32, 33, 100, 101, 1000, 1001, Integer.MAX_VALUE};
    private static final long[] ODD_LONG = {Long.MIN_VALUE, -1L, 0L, 100L, 101L, 100000L, 100001L, 1L << 32, 1L << 60,
        (1L << 60) + 1L, Long.MAX_VALUE};
    private static final int[] STEPS = {0, 0, 0, 0, 1, 1, 1, 2, 2, 3, 4, 5, 6, 8, 9, 10, 11};
    private static final int[] LONG_STEPS = {49, 50, 51, 99, 100, 101, 102};

    private final Random random;
    private final String title;
    private final int oddOnes;
    private final WatchRows2 x = new WatchRows2();
    private final WatchRows2 y = new WatchRows2();
    private final Model model = new Model();
    private int made = 0;
    private long time = 0L;

    private AnyCallsTest(long seed) {
        random = new Random(seed);
        title = "seed " + seed + ", call ";
        oddOnes = seed % 3 == 0 ? 12 : 300;
    }

    public static void main(String[] args) {
        for (long seed = 0; seed < RUNS; seed++) {
            new AnyCallsTest(seed).run(seed % 3 == 1);
        }
        Due.end();
    }

    private void run(boolean withEdges) {
        if (withEdges) {
            makePartsWithEdges();
        }
        while (made < CALLS) {
            make(drawn());
        }
    }

    /** Without them most points would EXPIRE a part. */
    private void makePartsWithEdges() {
        for (int part = 1; part <= 2; part++) {
            make(Call.of("part", 0, number(0, 1), number(1, 3), amount(1, 3)));
            make(Call.of("tolerance", 0, part, number(0, 3)));
            for (int m = 1; m >= 0; m--) {
                make(Call.of("mode", 0, m));
                for (int pair = 0; pair < 12; pair++) {
                    make(Call.of("edge", 0, part, pair / 3, pair % 3 + 1));
                }
                make(Call.of("deadline", 0, part, number(1, 3), number(1, 3), amount(0, 4), amount(4, 11)));
            }
        }
    }

    private void make(Call call) {
        made++;
        long got = call.on(x);
        Due.is(title + made + ": " + call, got, model.answer(call));
        if (got >= 0) {
            Due.is(title + made + " without the refused ones: " + call, call.on(y), got);
        }
    }

    private boolean isOdd() {
        return random.nextInt(oddOnes) == 0;
    }

    private int number(int low, int high) {
        return isOdd() ? ODD[random.nextInt(ODD.length)] : low + random.nextInt(high - low + 1);
    }

    private long amount(int low, int high) {
        return isOdd() ? ODD_LONG[random.nextInt(ODD_LONG.length)] : low + random.nextInt(high - low + 1);
    }

    private long time() {
        if (isOdd()) {
            long odd = ODD_LONG[random.nextInt(ODD_LONG.length)];
            return odd == 1L << 60 && random.nextInt(20) != 0 ? time - 1L : odd;
        }
        int[] steps = random.nextInt(40) == 0 ? LONG_STEPS : STEPS;
        time += steps[random.nextInt(steps.length)];
        return time;
    }

    private Call drawn() {
        switch (random.nextInt(24)) {
            case 0:
                return Call.of("part", 0, number(0, 2), number(1, 5), amount(0, 4));
            case 1:
            case 2:
                return Call.of("edge", 0, number(1, 4), number(0, 4), number(1, 4));
            case 3:
                return Call.of("deadline", 0, number(1, 4), number(1, 4), number(1, 4), amount(0, 5), amount(3, 15));
            case 4:
            case 5:
            case 6:
            case 7:
            case 8:
            case 9:
                return Call.of("point", 0, number(1, 2), number(1, 3), time());
            case 10:
                return Call.of("point", 0, number(1, 4), number(1, 4), time());
            case 11:
            case 12:
            case 13:
                return Call.of("cycle", 0, time());
            case 14:
                return Call.of("tolerance", 0, number(0, 4), number(0, 5));
            case 15:
            case 16:
            case 17:
            case 18:
                return drawnAnswer();
            case 19:
                return Call.of("mode", 0, random.nextInt(3) == 0 ? number(0, 3) : 0);
            case 20:
                return Call.of("reset", 0, random.nextInt(6) == 0 ? number(0, 5) : number(1, 5));
            case 21:
                return Call.of("state", 0, number(0, 21));
            default:
                return Call.of("outer", 0, time());
        }
    }

    private Call drawnAnswer() {
        int step = random.nextInt(8) == 0 ? number(0, 3) : model.nextStep();
        long v = random.nextInt(8) == 0 ? amount(0, 15) : model.rightValue(step);
        return Call.of("answer", 0, step, v, time());
    }
}
