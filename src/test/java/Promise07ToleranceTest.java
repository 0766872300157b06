public final class Promise07ToleranceTest {
    public static void main(String[] args) {
        refusals();
        ofAPart();
        atFirstZero();
        ofAll();
        refusedOnesChangeNothing();
        keptByAReset();
        ranges();
        allValues();
        Due.end();
    }

    private static WatchRows2 watch() {
        WatchRows2 x = new WatchRows2();
        x.part(1, 1, 1L);
        x.part(0, 1, 1L);
        x.cycle(0L);
        x.cycle(0L);
        return x;
    }

    private static void refusals() {
        WatchRows2 x = watch();
        Due.is("part 3", x.tolerance(3, 1), -1);
        Due.is("part -1", x.tolerance(-1, 1), -1);
        Due.is("part MAX", x.tolerance(Integer.MAX_VALUE, 1), -1);
        Due.is("part 3, n 101: the part comes first", x.tolerance(3, 101), -1);
        Due.is("n -1", x.tolerance(1, -1), -2);
        Due.is("n 101", x.tolerance(1, 101), -2);
        Due.is("n -1 of all", x.tolerance(0, -1), -2);
        Due.is("n 101 of all", x.tolerance(0, 101), -2);
        Due.is("n 0", x.tolerance(1, 0), 1);
        Due.is("n 100", x.tolerance(2, 100), 1);
        Due.is("n 100 of all", x.tolerance(0, 100), 1);
        Due.is("of all without parts", new WatchRows2().tolerance(0, 0), 1);
    }

    private static void ofAPart() {
        WatchRows2 x = watch();
        x.tolerance(1, 2);
        Due.is("one failure", x.cycle(0L), 1);
        Due.is("two", x.cycle(0L), 1);
        Due.is("three", x.cycle(0L), 3);
    }

    private static void atFirstZero() {
        WatchRows2 x = watch();
        x.tolerance(2, 100);
        x.tolerance(0, 100);
        Due.is("one failure", x.cycle(0L), 2);
        Due.is("state(1)", x.state(1), 2);
        Due.is("state(2)", x.state(2), 0);
    }

    private static void ofAll() {
        WatchRows2 x = watch();
        x.tolerance(0, 1);
        Due.is("one cycle", x.cycle(0L), 2);
        Due.is("two cycles", x.cycle(0L), 3);
    }

    private static void refusedOnesChangeNothing() {
        WatchRows2 x = watch();
        x.tolerance(1, 1);
        x.tolerance(1, 101);
        x.tolerance(0, -1);
        Due.is("one failure", x.cycle(0L), 1);
        Due.is("two", x.cycle(0L), 3);
    }

    private static void keptByAReset() {
        WatchRows2 x = watch();
        x.tolerance(1, 1);
        x.tolerance(0, 1);
        x.reset(0);
        x.cycle(0L);
        x.cycle(0L);
        Due.is("the part's, one failure", x.cycle(0L), 1);
        Due.is("the part's, two", x.cycle(0L), 2);
        Due.is("that of all", x.cycle(0L), 3);
    }

    private static void ranges() {
        for (int part : new int[] {Integer.MIN_VALUE, -1, 0, 1, 2, 3, Integer.MAX_VALUE}) {
            for (int n : new int[] {Integer.MIN_VALUE, -1, 0, 1, 99, 100, 101, Integer.MAX_VALUE}) {
                int due = part < 0 || part > 2 ? -1 : n < 0 || n > 100 ? -2 : 1;
                Run.of("two parts", "part(0, 1, 1) 1; part(0, 1, 1) 2").due(Call.of("tolerance", due, part, n));
            }
        }
    }

    private static void allValues() {
        for (int n = 0; n <= 100; n++) {
            Run part = Run.of("a part's", "part(1, 1, 1) 1; cycle(0) 0 *2").due("tolerance(1, %d) 1; tolerance(1, 101) -2", n);
            Run all = Run.of("the global one", "part(0, 1, 1) 1; point(1, 5, 0) 2").due("tolerance(0, %d) 1; "
                    + "tolerance(0, -1) -2", n);
            for (int i = 1; i <= n; i++) {
                part.due("cycle(0) 1");
                all.due("cycle(0) 2");
            }
            part.due("cycle(0) 3");
            all.due("cycle(0) 3");
        }
    }
}
