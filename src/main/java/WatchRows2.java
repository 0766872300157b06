import java.util.ArrayList;

/**
 * Watching over parts: alive counts over spans, times between points, pairs of points that may
 * follow one another, local states and a global one, a question, an outer watch, modes, resets.
 */
public final class WatchRows2 {
    private static final int UNKNOWN_NUMBER = -1;
    private static final int OUTSIDE_RANGE = -2;
    private static final int NO_ROOM = -4;

    private static final int OK = 0;
    private static final int FAILED = 1;
    private static final int EXPIRED = 2;
    private static final int RESET_BY_CYCLE = 3;

    private static final int REASON_EXPIRED = 1;
    private static final int REASON_ANSWERS = 2;
    private static final int REASON_OUTER = 3;
    private static final int REASON_ASKED = 4;

    private static final int MOST_PARTS = 20;
    private static final int MOST_DEADLINES = 10;
    private static final int MODES = 4;
    private static final int NO_POINT = 0;
    private static final int ALIVE_POINT = 1;
    private static final int LAST_POINT = 30;
    private static final int HIGHEST_COUNT = 1000;
    private static final long LONGEST_SPAN = 100L;
    private static final long LONGEST_DEADLINE = 100000L;
    private static final int HIGHEST_TOLERANCE = 100;
    private static final int UNCHECKED_AGE = 2;
    private static final long OUTER_LIMIT = 100L;
    private static final long LAST_TIME = 1L << 60;

    private static final int QUESTIONS = 16;
    private static final int LAST_STEP = 3;
    private static final int ERRORS_TO_RESET = 8;
    private static final long EARLIEST_LAST_STEP = 10L;
    private static final long LATEST_LAST_STEP = 50L;

    private final ArrayList<Part> parts;
    private final Question question;
    private int currentMode;
    private int age;
    private long now;
    private long outerSince;
    private int globalTolerance;
    private int expiredCycles;
    private int resets;
    private int lastReason;

    public WatchRows2() {
        parts = new ArrayList<Part>();
        question = new Question();
        currentMode = 0;
        age = 0;
        now = 0L;
        outerSince = 0L;
        globalTolerance = 0;
        expiredCycles = 0;
        resets = 0;
        lastReason = 0;
    }

    public int part(int least, int most, long span) throws ArithmeticException {
        if (!isWithin(least, 0, HIGHEST_COUNT) || !isWithin(most, least, HIGHEST_COUNT)
                || !isWithin(span, 0, LONGEST_SPAN)) {
            return OUTSIDE_RANGE;
        }
        if (parts.size() >= MOST_PARTS) {
            return NO_ROOM;
        }
        if (span == 0L) {
            throw new ArithmeticException("a span of 0 has no rate");
        }
        parts.add(new Part(least, most, span));
        return parts.size();
    }

    public int edge(int part, int from, int to) {
        Part watched = findPart(part);
        if (watched == null) {
            return UNKNOWN_NUMBER;
        }
        if (from != NO_POINT && !isPoint(from) || !isPoint(to)) {
            return OUTSIDE_RANGE;
        }
        return watched.addEdge(currentMode, from, to) ? 1 : 0;
    }

    public int deadline(int part, int from, int to, long least, long most) {
        Part watched = findPart(part);
        if (watched == null) {
            return UNKNOWN_NUMBER;
        }
        if (!isPoint(from) || !isPoint(to) || !isWithin(least, 0L, LONGEST_DEADLINE)
                || !isWithin(most, least, LONGEST_DEADLINE)) {
            return OUTSIDE_RANGE;
        }
        if (watched.deadlines.size() >= MOST_DEADLINES) {
            return NO_ROOM;
        }
        watched.deadlines.add(new Deadline(currentMode, from, to, least, most));
        return watched.deadlines.size();
    }

    public int point(int part, int p, long t) {
        Part watched = findPart(part);
        if (watched == null) {
            return UNKNOWN_NUMBER;
        }
        if (!isPoint(p) || !isTime(t)) {
            return OUTSIDE_RANGE;
        }
        now = t;
        watched.passPoint(currentMode, p, t);
        return watched.condition;
    }

    public int cycle(long t) {
        if (!isTime(t)) {
            return OUTSIDE_RANGE;
        }
        now = t;
        age++;
        for (int i = 0; i < parts.size(); i++) {
            parts.get(i).passCycle(age, t);
        }
        int global = worstCondition();
        expiredCycles = global == EXPIRED ? expiredCycles + 1 : 0;
        if (expiredCycles > globalTolerance) {
            restart(REASON_EXPIRED);
            return RESET_BY_CYCLE;
        }
        return global;
    }

    public int tolerance(int part, int n) {
        Part watched = findPart(part);
        if (watched == null && part != 0) {
            return UNKNOWN_NUMBER;
        }
        if (!isWithin(n, 0, HIGHEST_TOLERANCE)) {
            return OUTSIDE_RANGE;
        }
        if (watched == null) {
            globalTolerance = n;
        } else {
            watched.tolerated = n;
        }
        return 1;
    }

    public int answer(int step, long v, long t) {
        if (!isWithin(step, 0, LAST_STEP) || !isTime(t)) {
            return OUTSIDE_RANGE;
        }
        now = t;
        if (question.isRight(step, v, t)) {
            question.takeRight(step, t);
            return 1;
        }
        question.takeWrong(t);
        if (question.errors >= ERRORS_TO_RESET) {
            restart(REASON_ANSWERS);
        }
        return 0;
    }

    public int mode(int m) {
        if (!isWithin(m, 0, MODES - 1)) {
            return OUTSIDE_RANGE;
        }
        int former = currentMode;
        if (m != former) {
            currentMode = m;
            for (int i = 0; i < parts.size(); i++) {
                parts.get(i).forgetCourse();
            }
        }
        return former;
    }

    public int reset(int what) {
        switch (what) {
            case 0:
                restart(REASON_ASKED);
                return resets;
            case 1:
                return resets;
            case 2:
                return lastReason;
            case 3:
                return question.number;
            case 4:
                return question.errors;
            case 5:
                return age;
            default:
                return OUTSIDE_RANGE;
        }
    }

    public int outer(long t) {
        if (!isTime(t)) {
            return OUTSIDE_RANGE;
        }
        now = t;
        if (t - outerSince > OUTER_LIMIT) {
            restart(REASON_OUTER);
            return 0;
        }
        outerSince = t;
        return 1;
    }

    public int state(int part) {
        Part watched = findPart(part);
        return watched == null ? UNKNOWN_NUMBER : watched.condition;
    }

    private static boolean isWithin(long value, long lowest, long highest) {
        return value >= lowest && value <= highest;
    }

    private static boolean isPoint(int p) {
        return isWithin(p, ALIVE_POINT, LAST_POINT);
    }

    private boolean isTime(long t) {
        return isWithin(t, now, LAST_TIME);
    }

    private Part findPart(int number) {
        return isWithin(number, 1, parts.size()) ? parts.get(number - 1) : null;
    }

    private int worstCondition() {
        int worst = OK;
        for (int i = 0; i < parts.size(); i++) {
            worst = Math.max(worst, parts.get(i).condition);
        }
        return worst;
    }

    private void restart(int reason) {
        lastReason = reason;
        resets++;
        for (int i = 0; i < parts.size(); i++) {
            parts.get(i).beginAnew();
        }
        currentMode = 0;
        age = 0;
        // The row of expired cycles is not among what a reset keeps.
        expiredCycles = 0;
        question.beginAnew(now);
        outerSince = now;
    }

    private static final class Part {
        final int least;
        final int most;
        final long span;
        // One element for each mode and point before; its bit n stands for an edge to point n.
        final int[] edgeRows;
        final ArrayList<Deadline> deadlines;
        int tolerated;
        int condition;
        int failures;
        int aliveCount;
        int pointBefore;
        boolean flawed;

        Part(int least, int most, long span) {
            this.least = least;
            this.most = most;
            this.span = span;
            edgeRows = new int[MODES * (LAST_POINT + 1)];
            deadlines = new ArrayList<Deadline>();
            tolerated = 0;
            condition = OK;
            failures = 0;
            aliveCount = 0;
            pointBefore = NO_POINT;
            flawed = false;
        }

        boolean addEdge(int ofMode, int from, int to) {
            int row = rowOf(ofMode, from);
            if (hasEdge(ofMode, from, to) || !isWithin(row, 0, edgeRows.length - 1)) {
                return false;
            }
            edgeRows[row] |= 1 << to;
            return true;
        }

        boolean hasEdge(int ofMode, int from, int to) {
            int row = rowOf(ofMode, from);
            return isWithin(row, 0, edgeRows.length - 1) && (edgeRows[row] & (1 << to)) != 0;
        }

        private static int rowOf(int ofMode, int from) {
            return ofMode * (LAST_POINT + 1) + from;
        }

        void passPoint(int ofMode, int p, long t) {
            boolean allowed = hasEdge(ofMode, pointBefore, p);
            pointBefore = p;
            if (condition == EXPIRED) {
                return;
            }
            if (!allowed) {
                condition = EXPIRED;
                return;
            }
            endDeadlines(p, t);
            beginDeadlines(ofMode, p, t);
            if (p == ALIVE_POINT) {
                aliveCount++;
            }
        }

        // Running ones are always of the current mode: a change of the mode stops them all.
        private void endDeadlines(int p, long t) {
            for (int i = 0; i < deadlines.size(); i++) {
                Deadline d = deadlines.get(i);
                if (d.running && d.to == p) {
                    flawed = flawed || !isWithin(t - d.begun, d.least, d.most);
                    d.running = false;
                }
            }
        }

        private void beginDeadlines(int ofMode, int p, long t) {
            for (int i = 0; i < deadlines.size(); i++) {
                Deadline d = deadlines.get(i);
                if (d.ofMode == ofMode && d.from == p) {
                    d.running = true;
                    d.begun = t;
                }
            }
        }

        void passCycle(int age, long t) {
            if (condition == EXPIRED) {
                return;
            }
            stopLateDeadlines(t);
            if (span > 0L && age % span == 0L) {
                checkAliveCount(age);
            }
            judge();
            flawed = false;
        }

        private void stopLateDeadlines(long t) {
            for (int i = 0; i < deadlines.size(); i++) {
                Deadline d = deadlines.get(i);
                if (d.running && t - d.begun > d.most) {
                    flawed = true;
                    d.running = false;
                }
            }
        }

        private void checkAliveCount(int age) {
            if (age > UNCHECKED_AGE && !isWithin(aliveCount, least, most)) {
                flawed = true;
            }
            aliveCount = 0;
        }

        private void judge() {
            if (flawed) {
                failures++;
                condition = failures > tolerated ? EXPIRED : FAILED;
            } else if (condition == FAILED) {
                failures--;
                condition = failures > 0 ? FAILED : OK;
            }
        }

        void forgetCourse() {
            aliveCount = 0;
            flawed = false;
            pointBefore = NO_POINT;
            for (int i = 0; i < deadlines.size(); i++) {
                deadlines.get(i).running = false;
            }
        }

        void beginAnew() {
            forgetCourse();
            condition = OK;
            failures = 0;
        }
    }

    private static final class Deadline {
        final int ofMode;
        final int from;
        final int to;
        final long least;
        final long most;
        boolean running;
        long begun;

        Deadline(int ofMode, int from, int to, long least, long most) {
            this.ofMode = ofMode;
            this.from = from;
            this.to = to;
            this.least = least;
            this.most = most;
            running = false;
            begun = 0L;
        }
    }

    private static final class Question {
        int number;
        int nextStep;
        int errors;
        long since;

        Question() {
            number = 0;
            nextStep = 0;
            errors = 0;
            since = 0L;
        }

        boolean isRight(int step, long v, long t) {
            return step == nextStep && v == rightValue(step) && (step != LAST_STEP || isInTime(t));
        }

        private long rightValue(int step) {
            return ((5 * number + 3 * step) ^ 10) % QUESTIONS;
        }

        private boolean isInTime(long t) {
            return isWithin(t - since, EARLIEST_LAST_STEP, LATEST_LAST_STEP);
        }

        void takeRight(int step, long t) {
            if (step != LAST_STEP) {
                nextStep = step + 1;
                return;
            }
            nextStep = 0;
            since = t;
            errors = Math.max(errors - 1, 0);
            number = (7 * number + 3) % QUESTIONS;
        }

        void takeWrong(long t) {
            errors++;
            nextStep = 0;
            since = t;
        }

        void beginAnew(long t) {
            number = 0;
            nextStep = 0;
            errors = 0;
            since = t;
        }
    }
}
