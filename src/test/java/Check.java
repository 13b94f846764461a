/** Counts the answers that are not as due, and ends a test with exit code 1 if there was one. */
final class Check {
    private final String test;
    private int wrong = 0;

    Check(String test) {
        this.test = test;
    }

    void due(String call, long got, long want) {
        if (got != want) {
            wrong++;
            System.out.println(test + ": " + call + " answered " + got + ", due is " + want);
        }
    }

    /** All answers of a row of calls, told as one text. */
    void due(String calls, String got, String want) {
        if (!got.equals(want)) {
            wrong++;
            System.out.println(test + ": " + calls + " answered " + got + ", due is " + want);
        }
    }

    void end() {
        if (wrong != 0) {
            System.out.println(test + ": " + wrong + " answers are not as due");
            System.exit(1);
        }
    }

    static void write(ScopeTasks x, String text) {
        for (int i = 0; i < text.length(); i++) {
            x.type(text.charAt(i));
        }
    }

    /** A new object that was told a text. */
    ScopeTasks told(String text, int items) {
        ScopeTasks x = new ScopeTasks();
        write(x, text);
        due("tree() of \"" + text + "\"", x.tree(), items);
        return x;
    }

    /** The TRACE as TICK:TASK:what, with blanks between. */
    static String trace(ScopeTasks x) {
        StringBuilder all = new StringBuilder();
        for (int k = 0; k < x.count(5); k++) {
            all.append(k == 0 ? "" : " ").append(x.trace(k, 0)).append(':').append(x.trace(k, 1))
                .append(':').append(x.trace(k, 2));
        }
        return all.toString();
    }

    static String list(ScopeTasks x, int t) {
        StringBuilder all = new StringBuilder();
        for (int k = 0; k < x.task(t, 6); k++) {
            all.append(k == 0 ? "" : " ").append(x.failure(t, k));
        }
        return all.toString();
    }

    /** One answer of task() for each TASK. */
    static String each(ScopeTasks x, int what) {
        StringBuilder all = new StringBuilder();
        for (int t = 0; t < x.count(0); t++) {
            all.append(t == 0 ? "" : " ").append(x.task(t, what));
        }
        return all.toString();
    }

    static void passTicks(ScopeTasks x, int n) {
        for (int i = 0; i < n; i++) {
            x.ticks(1);
        }
    }

    /** All that the calls that change nothing tell of an object of few TASKS. */
    static String look(ScopeTasks x) {
        StringBuilder all = new StringBuilder();
        for (int what = 0; what <= 8; what++) {
            all.append(x.count(what)).append(' ');
        }
        for (int what = 0; what <= 7; what++) {
            all.append('/').append(each(x, what));
        }
        all.append("/ ").append(trace(x)).append("/ ").append(x.wellBy());
        for (int t = 0; t < x.count(0); t++) {
            all.append('/').append(list(x, t)).append(' ').append(x.ends(t, 0)).append(' ').append(x.ends(t, 1))
                .append(' ').append(x.spares(t)).append(' ').append(x.fits(t));
        }
        return all.toString();
    }

    /**
     * All that an object shows, and all that it remembers: its acts, its images, what was SEEN and THE TEXT. Two objects
     * that tell the same here are alike. The object is of no use behind this.
     */
    static String everything(ScopeTasks x) {
        StringBuilder all = new StringBuilder(look(x));
        for (int left = x.undo(); left >= 0; left = x.undo()) {
            all.append("\nundo ").append(left).append(": ").append(x.count(1)).append('/').append(each(x, 1))
                .append('/').append(each(x, 5));
        }
        for (int image = 0; image <= 1; image++) {
            all.append("\nback ").append(x.back(image)).append(": ").append(trace(x)).append('/').append(each(x, 1));
        }
        all.append("\nforget ").append(x.forget()).append(", tree ").append(x.tree()).append(": ").append(each(x, 0))
            .append('/').append(x.ends(0, 0)).append(", clear ").append(x.clear());
        return all.toString();
    }
}
