/** A run of written calls on a new object; prints every answer that is not the one that is due. */
final class Run {
    private static final int MOST_CALLS = 512;
    private final String title;
    private final WatchRows2 x = new WatchRows2();
    private int made = 0;

    Run(String title) {
        this.title = title;
    }

    static Run of(String title, String... texts) {
        Run run = new Run(title);
        for (String text : texts) {
            run.due(text);
        }
        return run;
    }

    /** The calls of a text, whose %d and %s the values stand for. */
    Run due(String text, Object... values) {
        for (Call call : Call.read(text.formatted(values))) {
            due(call);
        }
        return this;
    }

    Run due(Call call) {
        made++;
        if (made > MOST_CALLS) {
            throw new IllegalStateException(title + ": an object is used for 512 calls at most");
        }
        Due.is(title + ", call " + made + ": " + call, call.on(x), call.due());
        return this;
    }
}
