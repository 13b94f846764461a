/** Counts the answers that are not as due, and ends a test with exit code 1 if there was one. */
final class Check {
    private final String test;
    private int wrong = 0;

    Check(String test) {
        this.test = test;
    }

    void due(String call, long got, long want) {
        if (got != want) {
            wrong++;
            System.out.println(test + ": " + call + " answered " + got + ", due is " + want);
        }
    }

    /** All answers of a row of calls, told as one text. */
    void due(String calls, String got, String want) {
        if (!got.equals(want)) {
            wrong++;
            System.out.println(test + ": " + calls + " answered " + got + ", due is " + want);
        }
    }

    void end() {
        if (wrong != 0) {
            System.out.println(test + ": " + wrong + " answers are not as due");
            System.exit(1);
        }
    }

    static void write(ScopeTasks x, String text) {
        for (int i = 0; i < text.length(); i++) {
            x.type(text.charAt(i));
        }
    }

    /** A new object that was told a text. */
    ScopeTasks told(String text, int items) {
        ScopeTasks x = new ScopeTasks();
        write(x, text);
        due("tree() of \"" + text + "\"", x.tree(), items);
        return x;
    }

    /** The TRACE as TICK:TASK:what, with blanks between. */
    static String trace(ScopeTasks x) {
        StringBuilder all = new StringBuilder();
        for (int k = 0; k < x.count(5); k++) {
            all.append(k == 0 ? "" : " ").append(x.trace(k, 0)).append(':').append(x.trace(k, 1))
                .append(':').append(x.trace(k, 2));
        }
        return all.toString();
    }

    static String list(ScopeTasks x, int t) {
        StringBuilder all = new StringBuilder();
        for (int k = 0; k < x.task(t, 6); k++) {
            all.append(k == 0 ? "" : " ").append(x.failure(t, k));
        }
        return all.toString();
    }

    /** One answer of task() for each TASK. */
    static String each(ScopeTasks x, int what) {
        StringBuilder all = new StringBuilder();
        for (int t = 0; t < x.count(0); t++) {
            all.append(t == 0 ? "" : " ").append(x.task(t, what));
        }
        return all.toString();
    }

    static void passTicks(ScopeTasks x, int n) {
        for (int i = 0; i < n; i++) {
            x.ticks(1);
        }
    }
}
