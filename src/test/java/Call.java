import java.util.ArrayList;
import java.util.List;
import java.util.regex.Matcher;
import java.util.regex.Pattern;

/**
 * A call written as "name(arguments) answer", with the answer that is due. An argument is a number,
 * 2^n with a number added or taken off, or one of int.min, int.max, long.min, long.max; the answer
 * "throws" is an ArithmeticException.
 */
record Call(String name, List<Long> arguments, long due) {
    static final long THROWS = Long.MIN_VALUE;
    private static final Pattern FORM = Pattern.compile("(\\w+)\\(([^)]*)\\) +(-?\\d+|throws)( +\\*(\\d+))?");
    private static final Pattern POWER = Pattern.compile("2\\^(\\d+)([+-]\\d+)?");

    static Call of(String name, long due, long... arguments) {
        List<Long> list = new ArrayList<>();
        for (long a : arguments) {
            list.add(a);
        }
        return new Call(name, list, due);
    }

    /** Calls stand in lines or behind ";"; "*n" behind one makes it n; "#" begins a remark. */
    static List<Call> read(String text) {
        List<Call> calls = new ArrayList<>();
        for (String line : text.split("\n")) {
            for (String one : line.replaceAll("#.*", "").split(";")) {
                if (!one.isBlank()) {
                    readOne(one.trim(), calls);
                }
            }
        }
        return calls;
    }

    private static void readOne(String text, List<Call> calls) {
        Matcher m = FORM.matcher(text);
        if (!m.matches()) {
            throw new IllegalArgumentException("no call: " + text);
        }
        List<Long> arguments = new ArrayList<>();
        for (String a : m.group(2).split(",")) {
            arguments.add(number(a.trim()));
        }
        long due = m.group(3).equals("throws") ? THROWS : Long.parseLong(m.group(3));
        int times = m.group(5) == null ? 1 : Integer.parseInt(m.group(5));
        for (int i = 0; i < times; i++) {
            calls.add(new Call(m.group(1), arguments, due));
        }
    }

    private static long number(String text) {
        Matcher power = POWER.matcher(text);
        if (power.matches()) {
            long more = power.group(2) == null ? 0L : Long.parseLong(power.group(2));
            return (1L << Integer.parseInt(power.group(1))) + more;
        }
        switch (text) {
            case "int.min":
                return Integer.MIN_VALUE;
            case "int.max":
                return Integer.MAX_VALUE;
            case "long.min":
                return Long.MIN_VALUE;
            case "long.max":
                return Long.MAX_VALUE;
            default:
                return Long.parseLong(text);
        }
    }

    long on(WatchRows2 x) {
        switch (name) {
            case "part":
                return part(x);
            case "edge":
                return x.edge(small(0), small(1), small(2));
            case "deadline":
                return x.deadline(small(0), small(1), small(2), large(3), large(4));
            case "point":
                return x.point(small(0), small(1), large(2));
            case "cycle":
                return x.cycle(large(0));
            case "tolerance":
                return x.tolerance(small(0), small(1));
            case "answer":
                return x.answer(small(0), large(1), large(2));
            case "mode":
                return x.mode(small(0));
            case "reset":
                return x.reset(small(0));
            case "outer":
                return x.outer(large(0));
            case "state":
                return x.state(small(0));
            default:
                throw new IllegalArgumentException("no such call: " + name);
        }
    }

    private long part(WatchRows2 x) {
        try {
            return x.part(small(0), small(1), large(2));
        } catch (ArithmeticException thrown) {
            return THROWS;
        }
    }

    int small(int i) {
        return Math.toIntExact(arguments.get(i));
    }

    long large(int i) {
        return arguments.get(i);
    }

    /** The time that the call tells if it is not refused, or -1 if it takes none. */
    long time() {
        switch (name) {
            case "cycle":
            case "outer":
                return large(0);
            case "point":
            case "answer":
                return large(2);
            default:
                return -1L;
        }
    }

    @Override
    public String toString() {
        return name + arguments.toString().replace('[', '(').replace(']', ')');
    }
}
