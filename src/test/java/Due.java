/** Compares answers with those that are due, and ends a test with exit code 1 if one differs. */
final class Due {
    private static int wrong = 0;

    private Due() {
    }

    static void is(String call, long got, long want) {
        if (got != want) {
            wrong++;
            System.out.println(call + " answered " + told(got) + ", due is " + told(want));
        }
    }

    static void throwsArithmetic(String call, WatchRows2 x, int least, int most, long span) {
        try {
            int got = x.part(least, most, span);
            wrong++;
            System.out.println(call + " answered " + got + ", due is an ArithmeticException");
        } catch (ArithmeticException due) {
            return;
        }
    }

    private static String told(long answer) {
        return answer == Call.THROWS ? "throws.ArithmeticException" : Long.toString(answer);
    }

    static void end() {
        if (wrong != 0) {
            System.exit(1);
        }
    }
}
