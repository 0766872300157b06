import java.util.ArrayList;
import java.util.HashSet;
import java.util.List;
import java.util.Set;

/**
 * A second reading of the document, slow and plain: it keeps what happened, and answers by going
 * through all of it again. AnyCallsTest holds the class against it.
 */
final class Model {
    private record Happened(boolean isCycle, int p, long t, int age) {
    }

    private record Answered(int step, boolean right, long t) {
    }

    private static final class Deadline {
        int mode;
        int from;
        int to;
        long least;
        long most;
        int unseen; // so many happenings of the part's course were before it was told
    }

    private static final class Part {
        int least;
        int most;
        long span;
        int tolerance = 0;
        int state = 0;
        int failures = 0;
        final Set<List<Integer>> edges = new HashSet<>();
        final List<Deadline> deadlines = new ArrayList<>();
        final List<Happened> course = new ArrayList<>();
    }

    private final List<Part> parts = new ArrayList<>();
    private final List<Integer> reasons = new ArrayList<>();
    private final List<Integer> globalStates = new ArrayList<>();
    private final List<Answered> answers = new ArrayList<>();
    private int mode = 0;
    private int globalTolerance = 0;
    private long now = 0;
    private long resetAt = 0;
    private long outerAt = 0;

    long answer(Call c) {
        switch (c.name()) {
            case "part":
                return part(c.large(0), c.large(1), c.large(2));
            case "edge":
                return edge(c.small(0), c.small(1), c.small(2));
            case "deadline":
                return deadline(c);
            case "point":
                return point(c.small(0), c.small(1), c.large(2));
            case "cycle":
                return cycle(c.large(0));
            case "tolerance":
                return tolerance(c.small(0), c.small(1));
            case "answer":
                return answer(c.small(0), c.large(1), c.large(2));
            case "mode":
                return mode(c.small(0));
            case "reset":
                return reset(c.small(0));
            case "outer":
                return outer(c.large(0));
            default:
                return known(c.small(0)) ? parts.get(c.small(0) - 1).state : -1;
        }
    }

    private boolean known(int part) {
        return part >= 1 && part <= parts.size();
    }

    private boolean badTime(long t) {
        return t < now || t > 1152921504606846976L;
    }

    private static boolean badPoint(int p) {
        return p < 1 || p > 30;
    }

    private long part(long least, long most, long span) {
        if (least < 0 || least > 1000 || most < least || most > 1000 || span < 0 || span > 100) {
            return -2;
        }
        if (parts.size() == 20) {
            return -4;
        }
        if (span == 0) {
            return Call.THROWS;
        }
        Part part = new Part();
        part.least = (int) least;
        part.most = (int) most;
        part.span = span;
        parts.add(part);
        return parts.size();
    }

    private long edge(int part, int from, int to) {
        if (!known(part)) {
            return -1;
        }
        if (from < 0 || from > 30 || badPoint(to)) {
            return -2;
        }
        return parts.get(part - 1).edges.add(List.of(mode, from, to)) ? 1 : 0;
    }

    private long deadline(Call c) {
        if (!known(c.small(0))) {
            return -1;
        }
        Part part = parts.get(c.small(0) - 1);
        Deadline d = new Deadline();
        d.mode = mode;
        d.from = c.small(1);
        d.to = c.small(2);
        d.least = c.large(3);
        d.most = c.large(4);
        d.unseen = part.course.size();
        if (badPoint(d.from) || badPoint(d.to) || d.least < 0 || d.least > 100000 || d.most < d.least || d.most > 100000) {
            return -2;
        }
        if (part.deadlines.size() == 10) {
            return -4;
        }
        part.deadlines.add(d);
        return part.deadlines.size();
    }

    private long point(int number, int p, long t) {
        if (!known(number)) {
            return -1;
        }
        if (badPoint(p) || badTime(t)) {
            return -2;
        }
        now = t;
        Part part = parts.get(number - 1);
        if (part.state != 2) {
            if (part.edges.contains(List.of(mode, pointBefore(part), p))) {
                part.course.add(new Happened(false, p, t, 0));
            } else {
                part.state = 2;
            }
        }
        return part.state;
    }

    private static int pointBefore(Part part) {
        int before = 0;
        for (Happened h : part.course) {
            before = h.isCycle ? before : h.p;
        }
        return before;
    }

    private long cycle(long t) {
        if (badTime(t)) {
            return -2;
        }
        now = t;
        int age = globalStates.size() + 1;
        int global = 0;
        for (Part part : parts) {
            if (part.state != 2) {
                part.course.add(new Happened(true, 0, t, age));
                judge(part, countFlaw(part) || deadlineFlaw(part));
            }
            global = Math.max(global, part.state);
        }
        globalStates.add(global);
        int row = 0;
        for (int state : globalStates) {
            row = state == 2 ? row + 1 : 0;
        }
        if (row > globalTolerance) {
            restart(1);
            return 3;
        }
        return global;
    }

    private static void judge(Part part, boolean flaw) {
        if (flaw) {
            part.failures++;
            part.state = part.failures > part.tolerance ? 2 : 1;
        } else if (part.state == 1) {
            part.failures--;
            part.state = part.failures == 0 ? 0 : 1;
        }
    }

    /** The last of the course is the cycle that looks. */
    private static boolean countFlaw(Part part) {
        int last = part.course.size() - 1;
        int age = part.course.get(last).age;
        if (age <= 2 || age % part.span != 0) {
            return false;
        }
        int count = 0;
        for (Happened h : part.course.subList(0, last)) {
            if (h.isCycle && h.age % part.span == 0) {
                count = 0;
            } else if (!h.isCycle && h.p == 1) {
                count++;
            }
        }
        return count < part.least || count > part.most;
    }

    private boolean deadlineFlaw(Part part) {
        for (Deadline d : part.deadlines) {
            if (d.mode == mode && deadlineFlaw(part, d)) {
                return true;
            }
        }
        return false;
    }

    private static boolean deadlineFlaw(Part part, Deadline d) {
        boolean flaw = false;
        long begun = -1;
        for (int i = d.unseen; i < part.course.size(); i++) {
            Happened h = part.course.get(i);
            if (i > 0 && part.course.get(i - 1).isCycle) {
                flaw = false;
            }
            long passed = h.t - begun;
            if (h.isCycle) {
                if (begun >= 0 && passed > d.most) {
                    flaw = true;
                    begun = -1;
                }
                continue;
            }
            if (begun >= 0 && h.p == d.to) {
                flaw |= passed < d.least || passed > d.most;
                begun = -1;
            }
            begun = h.p == d.from ? h.t : begun;
        }
        return flaw;
    }

    private long tolerance(int part, int n) {
        if (part != 0 && !known(part)) {
            return -1;
        }
        if (n < 0 || n > 100) {
            return -2;
        }
        if (part == 0) {
            globalTolerance = n;
        } else {
            parts.get(part - 1).tolerance = n;
        }
        return 1;
    }

    private long answer(int step, long v, long t) {
        if (step < 0 || step > 3 || badTime(t)) {
            return -2;
        }
        now = t;
        long passed = t - questionAt();
        boolean right = step == nextStep() && v == rightValue(step) && (step < 3 || passed >= 10 && passed <= 50);
        answers.add(new Answered(step, right, t));
        if (errors() == 8) {
            restart(2);
        }
        return right ? 1 : 0;
    }

    private long questionAt() {
        long at = resetAt;
        for (Answered a : answers) {
            at = !a.right || a.step == 3 ? a.t : at;
        }
        return at;
    }

    int nextStep() {
        int next = 0;
        for (Answered a : answers) {
            next = !a.right || a.step == 3 ? 0 : a.step + 1;
        }
        return next;
    }

    long rightValue(int step) {
        return ((5 * q() + 3 * step) ^ 10) & 15;
    }

    private int q() {
        int q = 0;
        for (Answered a : answers) {
            q = a.right && a.step == 3 ? (7 * q + 3) & 15 : q;
        }
        return q;
    }

    private int errors() {
        int errors = 0;
        for (Answered a : answers) {
            if (!a.right) {
                errors++;
            } else if (a.step == 3 && errors > 0) {
                errors--;
            }
        }
        return errors;
    }

    private long mode(int m) {
        if (m < 0 || m > 3) {
            return -2;
        }
        int was = mode;
        mode = m;
        if (m != was) {
            forgetCourses();
        }
        return was;
    }

    private void forgetCourses() {
        for (Part part : parts) {
            part.course.clear();
            for (Deadline d : part.deadlines) {
                d.unseen = 0;
            }
        }
    }

    private void restart(int reason) {
        reasons.add(reason);
        forgetCourses();
        for (Part part : parts) {
            part.state = 0;
            part.failures = 0;
        }
        globalStates.clear();
        answers.clear();
        mode = 0;
        resetAt = now;
        outerAt = now;
    }

    private long reset(int what) {
        switch (what) {
            case 0:
                restart(4);
                return reasons.size();
            case 1:
                return reasons.size();
            case 2:
                return reasons.isEmpty() ? 0 : reasons.get(reasons.size() - 1);
            case 3:
                return q();
            case 4:
                return errors();
            case 5:
                return globalStates.size();
            default:
                return -2;
        }
    }

    private long outer(long t) {
        if (badTime(t)) {
            return -2;
        }
        now = t;
        if (t > outerAt + 100) {
            restart(3);
            return 0;
        }
        outerAt = t;
        return 1;
    }
}
