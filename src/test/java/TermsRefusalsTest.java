import java.util.ArrayList;
import java.util.List;

/**
 * Terms: REFUSALS change nothing and answer the first that fits. Each refused call is put before
 * each call of a run: it must answer its refusal, and all the others as if it had not been made.
 */
public final class TermsRefusalsTest {
    private static final int MOST_PARTS = 20;
    private static final int MOST_DEADLINES = 10;
    private static final long LAST_TIME = 1L << 60;

    /** Its answers show all that an object holds: counts, flaws, deadlines, points before, errors, times. */
    private static final String RUN = """
            part(1, 2, 3) 1; part(0, 1, 1) 2
            tolerance(1, 1) 1; tolerance(2, 1) 1; tolerance(0, 1) 1
            mode(1) 0; edge(1, 0, 7) 1; edge(1, 7, 8) 1; deadline(1, 7, 8, 2, 4) 1; mode(0) 1
            edge(1, 0, 1) 1; edge(1, 1, 1) 1; edge(1, 1, 2) 1; edge(1, 2, 1) 1; edge(2, 0, 1) 1; edge(2, 1, 1) 1
            deadline(1, 1, 2, 5, 20) 2; deadline(1, 1, 2, 5, 19) 3
            point(1, 1, 3) 0; point(2, 1, 3) 0; answer(0, 10, 4) 1; outer(4) 1; cycle(4) 0    # AGE 1
            point(1, 2, 8) 0; answer(1, 9, 9) 1; cycle(10) 0                                  # in time
            point(1, 1, 11) 0; answer(2, 12, 12) 1; point(2, 1, 12) 0; cycle(12) 0            # 2 and 1 alive
            answer(3, 3, 14) 1; reset(3) 3; point(1, 2, 15) 0                                 # too soon
            point(2, 1, 16) 0; point(2, 1, 16) 0; cycle(16) 1; state(1) 1; state(2) 1         # and 2 alive
            answer(3, 0, 20) 0; reset(4) 1; cycle(20) 0; state(1) 0; state(2) 0
            point(1, 1, 21) 0; mode(1) 0; point(1, 7, 22) 0; cycle(26) 1; state(1) 1          # none alive
            cycle(27) 2; state(1) 2; point(2, 1, 27) 2; state(2) 2                            # too late
            cycle(28) 3; reset(1) 1; reset(2) 1; reset(3) 0; reset(4) 0; reset(5) 0; mode(0) 0
            point(1, 1, 28) 0; point(1, 2, 33) 0; cycle(33) 0; cycle(33) 0; cycle(33) 0; reset(5) 3
            outer(127) 1; outer(228) 0; reset(1) 2; reset(2) 3
            answer(0, 10, 230) 1; answer(3, 0, 230) 0 *8; reset(1) 3; reset(2) 2
            part(0, 5, 2) 3; edge(3, 0, 30) 1; edge(3, 0, 30) 0; deadline(1, 3, 4, 0, 0) 4; reset(0) 4; reset(2) 4
            """;

    /** Behind it there is room for no part, and for no deadline of part 1. */
    private static final String FULL = """
            deadline(1, 2, 3, 5, 9) 1; deadline(1, 2, 3, 5, 9) 2; deadline(1, 2, 3, 5, 9) 3; deadline(1, 2, 3, 5, 9) 4
            deadline(1, 3, 3, 0, 0) 5; mode(1) 0; deadline(1, 2, 3, 0, 0) 6; deadline(1, 2, 3, 0, 0) 7; mode(0) 1
            deadline(1, 2, 3, 5, 9) 8; deadline(1, 2, 3, 5, 9) 9; deadline(1, 2, 3, 5, 9) 10
            tolerance(1, 1) 1; tolerance(20, 1) 1; edge(1, 0, 2) 1; edge(1, 2, 3) 1; edge(20, 0, 1) 1
            point(1, 2, 1) 0; point(1, 3, 6) 0; point(20, 1, 6) 0; cycle(6) 0; cycle(6) 0; state(1) 0; state(20) 0
            deadline(20, 1, 2, 0, 0) 1; reset(0) 1; point(1, 2, 6) 0; point(1, 3, 10) 0; cycle(10) 1; state(1) 1
            """;

    public static void main(String[] args) {
        putIntoEachPlace("run", Call.read(RUN));
        List<Call> full = new ArrayList<>();
        for (int i = 1; i <= MOST_PARTS; i++) {
            full.add(Call.of("part", i, 0, 9, 1));
        }
        full.addAll(Call.read(FULL));
        putIntoEachPlace("full", full);
        Due.end();
    }

    private static void putIntoEachPlace(String title, List<Call> run) {
        long told = 0L;
        int parts = 0;
        int deadlines = 0;
        for (int place = 0; place <= run.size(); place++) {
            for (Call refused : refusedCalls(told, parts, deadlines)) {
                putInto(title, run, place, refused);
            }
            if (place < run.size()) {
                Call call = run.get(place);
                told = Math.max(told, call.time());
                parts += call.name().equals("part") ? 1 : 0;
                deadlines += call.name().equals("deadline") && call.small(0) == 1 ? 1 : 0;
            }
        }
    }

    private static void putInto(String title, List<Call> run, int place, Call refused) {
        Run all = new Run(title + " with " + refused + " in place " + place);
        for (int i = 0; i < run.size(); i++) {
            if (i == place) {
                all.due(refused);
            }
            all.due(run.get(i));
        }
        if (place == run.size()) {
            all.due(refused).due(refused);
        }
    }

    private static List<Call> refusedCalls(long told, int parts, int deadlines) {
        List<Call> calls = new ArrayList<>();
        addParts(calls, parts);
        for (int unknown : new int[] {Integer.MIN_VALUE, -1, 0, parts + 1, Integer.MAX_VALUE}) {
            addUnknown(calls, unknown, told);
        }
        if (parts > 0) {
            addEdges(calls, parts);
            addDeadlines(calls, deadlines);
            addPoints(calls, parts, told);
            addTolerances(calls, parts);
        }
        addTolerances(calls, 0);
        addTimes(calls, told);
        addOthers(calls);
        return calls;
    }

    private static void addParts(List<Call> calls, int parts) {
        long[][] outside = {{-1, 5, 1}, {1001, 1001, 1}, {1001, 1000, 1}, {5, 4, 1}, {0, 1001, 1}, {0, -1, 1}, {0, 1, -1},
            {0, 1, 101}, {0, 1, (1L << 32) + 1L}, {0, 1, Long.MIN_VALUE}, {0, 1, Long.MAX_VALUE}, {-1, 5, 0}, {5, 4, 0},
            {0, 1001, 0}, {Integer.MIN_VALUE, Integer.MAX_VALUE, 1}};
        for (long[] a : outside) {
            calls.add(Call.of("part", -2, a));
        }
        calls.add(Call.of("part", parts < MOST_PARTS ? Call.THROWS : -4, 0, 0, 0));
        calls.add(Call.of("part", parts < MOST_PARTS ? Call.THROWS : -4, 1000, 1000, 0));
        if (parts == MOST_PARTS) {
            calls.add(Call.of("part", -4, 0, 0, 1));
            calls.add(Call.of("part", -4, 1000, 1000, 100));
        }
    }

    /** An unknown part comes first, whatever else is wrong. */
    private static void addUnknown(List<Call> calls, int unknown, long told) {
        calls.add(Call.of("state", -1, unknown));
        calls.add(Call.of("edge", -1, unknown, 0, 1));
        calls.add(Call.of("edge", -1, unknown, -1, 0));
        calls.add(Call.of("edge", -1, unknown, 31, 31));
        calls.add(Call.of("deadline", -1, unknown, 1, 2, 0, 0));
        calls.add(Call.of("deadline", -1, unknown, 0, 31, 0, 0));
        calls.add(Call.of("deadline", -1, unknown, 1, 2, -1, 100001));
        calls.add(Call.of("point", -1, unknown, 1, told));
        calls.add(Call.of("point", -1, unknown, 1, told + 1000L));
        calls.add(Call.of("point", -1, unknown, 0, told));
        calls.add(Call.of("point", -1, unknown, 31, told - 1L));
        calls.add(Call.of("point", -1, unknown, 1, LAST_TIME + 1L));
        if (unknown != 0) {
            calls.add(Call.of("tolerance", -1, unknown, 1));
            calls.add(Call.of("tolerance", -1, unknown, -1));
            calls.add(Call.of("tolerance", -1, unknown, 101));
        }
    }

    private static void addEdges(List<Call> calls, int part) {
        int[][] outside = {{-1, 1}, {31, 1}, {32, 1}, {0, 0}, {0, -1}, {0, 31}, {0, 33}, {1, 0}, {31, 0}, {-1, 31},
            {Integer.MIN_VALUE, 1}, {0, Integer.MAX_VALUE}};
        for (int[] a : outside) {
            calls.add(Call.of("edge", -2, 1, a[0], a[1]));
            calls.add(Call.of("edge", -2, part, a[0], a[1]));
        }
    }

    private static void addDeadlines(List<Call> calls, int deadlines) {
        long[][] outside = {{0, 2, 0, 0}, {31, 2, 0, 0}, {-1, 2, 0, 0}, {1, 0, 0, 0}, {1, 31, 0, 0}, {1, -1, 0, 0}, {1, 2, -1, 0},
            {1, 2, -1, -1}, {1, 2, 100001, 100001}, {1, 2, 100001, 100000}, {1, 2, 5, 4}, {1, 2, 0, -1}, {1, 2, 0, 100001},
            {1, 2, 0, (1L << 32) + 5L}, {1, 2, Long.MIN_VALUE, Long.MAX_VALUE}};
        for (long[] a : outside) {
            calls.add(Call.of("deadline", -2, 1, a[0], a[1], a[2], a[3]));
        }
        if (deadlines == MOST_DEADLINES) {
            calls.add(Call.of("deadline", -4, 1, 2, 3, 0, 0));
            calls.add(Call.of("deadline", -4, 1, 1, 30, 0, 100000));
            calls.add(Call.of("deadline", -4, 1, 30, 1, 100000, 100000));
        }
    }

    /** Refused for their point with a time that must not be told, or for their time. */
    private static void addPoints(List<Call> calls, int part, long told) {
        for (int p : new int[] {Integer.MIN_VALUE, -1, 0, 31, 33, Integer.MAX_VALUE}) {
            calls.add(Call.of("point", -2, 1, p, told + 1000L));
            calls.add(Call.of("point", -2, part, p, LAST_TIME));
        }
        for (int p = 1; p <= 30; p += p < 8 ? 1 : 22) {
            calls.add(Call.of("point", -2, 1, p, told - 1L));
            calls.add(Call.of("point", -2, part, p, LAST_TIME + 1L));
        }
        calls.add(Call.of("point", -2, part, 2, Long.MIN_VALUE));
        calls.add(Call.of("point", -2, part, 2, Long.MAX_VALUE));
    }

    private static void addTolerances(List<Call> calls, int part) {
        for (int n : new int[] {Integer.MIN_VALUE, -1, 101, Integer.MAX_VALUE}) {
            calls.add(Call.of("tolerance", -2, part, n));
        }
    }

    private static void addTimes(List<Call> calls, long told) {
        for (long t : new long[] {Long.MIN_VALUE, -1L, told - 1L, LAST_TIME + 1L, Long.MAX_VALUE}) {
            calls.add(Call.of("cycle", -2, t));
            calls.add(Call.of("outer", -2, t));
            for (int step = 0; step <= 3; step++) {
                calls.add(Call.of("answer", -2, step, 10, t));
            }
        }
        for (int step : new int[] {Integer.MIN_VALUE, -1, 4, Integer.MAX_VALUE}) {
            calls.add(Call.of("answer", -2, step, 10, told + 1000L));
            calls.add(Call.of("answer", -2, step, 10, told - 1L));
        }
    }

    private static void addOthers(List<Call> calls) {
        for (int m : new int[] {Integer.MIN_VALUE, -1, 4, 5, Integer.MAX_VALUE}) {
            calls.add(Call.of("mode", -2, m));
        }
        for (int what : new int[] {Integer.MIN_VALUE, -1, 6, 7, Integer.MAX_VALUE}) {
            calls.add(Call.of("reset", -2, what));
        }
    }
}
