/** The edges that the document names for promises 8 to 10 and 19 (task, failure, trace, count): a test for each sentence. */
public final class BoundaryStateTest {
    private static final Check CHECK = new Check("BoundaryStateTest");
    private static final int[] NO_TASKS = {-1, 3, 7, 8, 256, Integer.MIN_VALUE, Integer.MAX_VALUE};

    public static void main(String[] args) {
        noSuchTask();
        noSuchWhat();
        parents();
        howItIsAndComesOut();
        behind();
        dueOrNone();
        asked();
        codesAndChildren();
        codesOfAList();
        aListOfEight();
        eventsOfTheTrace();
        counts();
        countsOfTasks();
        countsAtTheirMost();
        CHECK.end();
    }

    private static void noSuchTask() {
        ScopeTasks x = CHECK.told("rbw9;t0w9;t0w9;", 3);
        x.ticks(1);
        for (int t : NO_TASKS) {
            for (int what = 0; what <= 7; what++) {
                CHECK.due("promise 8, BAD: task(" + t + ", " + what + ")", x.task(t, what), -1);
            }
            CHECK.due("promise 9, BAD: failure(" + t + ", 0)", x.failure(t, 0), -1);
        }
        ScopeTasks root = new ScopeTasks();
        CHECK.due("promise 8, BAD: task(1, 1) of one TASK", root.task(1, 1), -1);
        CHECK.due("promise 9, BAD: failure(1, 0) of one TASK", root.failure(1, 0), -1);
        ScopeTasks eight = CHECK.told("r;t0;t0;t0;t0;t0;t0;t0;", 8);
        CHECK.due("promise 8, the eighth TASK", eight.task(7, 0), 0);
        CHECK.due("promise 8, BAD: a ninth TASK", eight.task(8, 0), -1);
        CHECK.due("promise 9, the eighth TASK", eight.failure(7, 0), -9);
        CHECK.due("promise 9, BAD: a ninth TASK", eight.failure(8, 0), -1);
        Check.write(eight, "r;t0;");
        eight.tree();
        CHECK.due("promise 8, BAD: no third TASK told anew", eight.task(2, 1), -1);
    }

    private static void noSuchWhat() {
        ScopeTasks x = CHECK.told("rf1;t0;", 2);
        x.ticks(1);
        for (int what : new int[] {-1, 8, 9, 256, Integer.MIN_VALUE, Integer.MAX_VALUE}) {
            CHECK.due("promise 8, BAD: task(0, " + what + ")", x.task(0, what), -1);
            CHECK.due("promise 8, BAD: task(1, " + what + ")", x.task(1, what), -1);
            CHECK.due("promise 8, BAD: task(9, " + what + ")", x.task(9, what), -1);
        }
        for (int what : new int[] {-1, 3, 4, 256, Integer.MIN_VALUE, Integer.MAX_VALUE}) {
            CHECK.due("promise 10, BAD: trace(0, " + what + ")", x.trace(0, what), -1);
            CHECK.due("promise 10, BAD ahead of NONE: trace(9, " + what + ")", x.trace(9, what), -1);
        }
        for (int what : new int[] {-1, 9, 10, 256, Integer.MIN_VALUE, Integer.MAX_VALUE}) {
            CHECK.due("promise 19, BAD: count(" + what + ")", x.count(what), -1);
        }
        for (int k : new int[] {-1, -2, Integer.MIN_VALUE}) {
            CHECK.due("promise 9, BAD: failure(0, " + k + ")", x.failure(0, k), -1);
            CHECK.due("promise 10, BAD: trace(" + k + ", 0)", x.trace(k, 0), -1);
        }
    }

    private static void parents() {
        ScopeTasks x = CHECK.told("r;t0;t1;t0;t3;t4;t5;t0;", 8);
        CHECK.due("promise 8, PARENT (NONE of the ROOT)", Check.each(x, 0), "-9 0 1 0 3 4 5 0");
    }

    private static void howItIsAndComesOut() {
        ScopeTasks x = CHECK.told("rbw9;t0w1;c1 2;", 3);
        String[] how = {"1 0", "1 1", "1 1", "1 2", "1 3"};
        String[] out = {"-9 -9", "-9 -9", "-9 -9", "-9 0", "-9 0"};
        for (int tick = 0; tick < how.length; tick++) {
            CHECK.due("promise 8, how it is at " + tick, Check.each(x, 1), how[tick]);
            CHECK.due("promise 8, how it comes out at " + tick + " (NONE: not CLOSING, ENDED)", Check.each(x, 2), out[tick]);
            x.ticks(1);
        }
        CHECK.due("promise 8, WELL is 0", outOf("r;c0 2;", 2, false), "2 0");
        CHECK.due("promise 8, FAILED is 1", outOf("rf1;c0 2;", 2, false), "2 1");
        CHECK.due("promise 8, CANCELLED is 2", outOf("rw9;c0 2;", 2, true), "2 2");
        ScopeTasks late = CHECK.told("rw9;d0 1;c0 2;", 3);
        late.ticks(2);
        CHECK.due("promise 8, LATE is 3", late.task(0, 1) + " " + late.task(0, 2), "2 3");
        late.ticks(1);
        CHECK.due("promise 8, LATE is 3, ENDED", late.task(0, 1) + " " + late.task(0, 2), "3 3");
    }

    private static String outOf(String text, int items, boolean asked) {
        ScopeTasks x = CHECK.told(text, items);
        if (asked) x.asks(0);
        x.ticks(1);
        return x.task(0, 1) + " " + x.task(0, 2);
    }

    private static void behind() {
        ScopeTasks x = CHECK.told("rbjxw1bw1;t0w1;", 2);
        StringBuilder seen = new StringBuilder();
        for (int tick = 0; tick <= 9; tick++) {
            seen.append(x.task(0, 3));
            x.ticks(1);
        }
        CHECK.due("promise 8, OPERATIONS behind it, 0 to 6", seen.toString(), "0111234566");
        CHECK.due("promise 8, OPERATIONS behind it, ENDED", Check.each(x, 3) + " / " + Check.each(x, 1), "6 1 / 3 3");
    }

    private static void dueOrNone() {
        ScopeTasks x = CHECK.told("rbw9;t0w1;t0;d1 60;d2 5;", 5);
        CHECK.due("promise 8, DUE (NONE: never, UNBEGUN)", Check.each(x, 4), "-9 -9 -9");
        x.ticks(1);
        CHECK.due("promise 8, DUE of one that was begun", Check.each(x, 4), "-9 61 -9");
        x.ticks(2);
        CHECK.due("promise 8, DUE of one that is ENDED", Check.each(x, 4) + " / " + Check.each(x, 1), "-9 61 -9 / 1 3 0");
        CHECK.due("promise 8, the latest DUE of the ROOT", CHECK.told("r;d0 60;", 2).task(0, 4), 60);
        CHECK.due("promise 8, the first DUE of the ROOT", CHECK.told("r;d0 1;", 2).task(0, 4), 1);
    }

    private static void asked() {
        ScopeTasks x = CHECK.told("rbw9;t0w9;", 2);
        x.ticks(1);
        CHECK.due("promise 8, not ASKED", Check.each(x, 5), "0 0");
        x.asks(1);
        CHECK.due("promise 8, ASKED", Check.each(x, 5), "0 1");
        x.ticks(1);
        CHECK.due("promise 8, ASKED and ENDED", Check.each(x, 5) + " / " + Check.each(x, 1), "0 1 / 1 3");
    }

    private static void codesAndChildren() {
        ScopeTasks x = CHECK.told("rbbbw9;g0;t0w1f1;t0w9;t0w9;t2;c1 2;", 7);
        CHECK.due("promise 8, codes and children at 0", Check.each(x, 6) + " / " + Check.each(x, 7), "0 0 0 0 0 / 0 0 0 0 0");
        x.ticks(3);
        CHECK.due("promise 8, children RUNNING or CLOSING", Check.each(x, 6) + " / " + Check.each(x, 7), "0 1 0 0 0 / 14 0 0 0 0");
        x.ticks(1);
        CHECK.due("promise 8, a child ENDED", Check.each(x, 6) + " / " + Check.each(x, 7), "1 1 0 0 0 / 12 0 0 0 0");
        ScopeTasks high = CHECK.told("rbbbbbb;t0bw9;t0;t0;t0;t0;t0;t1w9;", 8);
        high.ticks(2);
        CHECK.due("promise 8, bit 7", high.task(1, 7), 128);
        CHECK.due("promise 8, a grandchild is no child", high.task(0, 7), 6);
    }

    private static void codesOfAList() {
        ScopeTasks x = CHECK.told("rbj;g0;t0f9;", 3);
        CHECK.due("promise 9, NONE of an empty LIST", x.failure(0, 0), -9);
        x.ticks(2);
        CHECK.due("promise 9, the first code", x.failure(0, 0) + " " + x.failure(1, 0), "9 9");
        for (int k : new int[] {1, 2, 7, 8, 9, 60, 256, Integer.MAX_VALUE}) {
            CHECK.due("promise 9, NONE: failure(0, " + k + ")", x.failure(0, k), -9);
            CHECK.due("promise 9, NONE: failure(1, " + k + ")", x.failure(1, k), -9);
        }
        x.undo();
        CHECK.due("promise 9, NONE behind undo()", x.failure(0, 0) + " " + x.failure(1, 0), "-9 -9");
    }

    /** Each TASK can bring one code, so the ROOT's LIST may have eight and no more. */
    private static void aListOfEight() {
        ScopeTasks x = CHECK.told("rbbbbbj;t0bjf8;t0f2;t0f3;t0f4;t0f5;t1bjf6;t6f7;g0;g1;g6;d0 8;", 12);
        x.ticks(12);
        CHECK.due("promise 8, eight codes", x.task(0, 6), 8);
        CHECK.due("promise 9, eight codes, in order", Check.list(x, 0), "2 3 4 5 7 6 8 10");
        CHECK.due("promise 9, the eighth code", x.failure(0, 7), 10);
        CHECK.due("promise 9, NONE: no ninth code", x.failure(0, 8), -9);
        CHECK.due("promise 9, no code of another's LIST", x.failure(1, 3), -9);
        ScopeTasks last = CHECK.told("rbf9;t0bf8;t1bf7;t2bf6;t3bf5;t4bf4;t5bf3;t6w9;"
            + "s1 2;s2 2;s3 2;s4 2;s5 2;s6 2;s7 1;d7 1;", 16);
        last.ticks(12);
        CHECK.due("promise 9, a chain of eight", Check.list(last, 0), "9 8 7 6 5 4 3 10");
        CHECK.due("promise 9, the eighth TASK's own", Check.list(last, 7), "10");
    }

    private static void eventsOfTheTrace() {
        ScopeTasks x = CHECK.told("rb;t0;", 2);
        for (int what = 0; what <= 2; what++) {
            CHECK.due("promise 10, NONE of an empty TRACE", x.trace(0, what), -9);
        }
        x.ticks(12);
        int[][] events = {{1, 1, 0}, {2, 0, 1}, {2, 1, 1}, {2, 1, 2}, {2, 0, 2}};
        for (int k = 0; k < events.length; k++) {
            for (int what = 0; what <= 2; what++) {
                CHECK.due("promise 10, trace(" + k + ", " + what + ")", x.trace(k, what), events[k][what]);
            }
        }
        for (int k : new int[] {5, 6, 59, 60, 61, 256, Integer.MAX_VALUE}) {
            for (int what = 0; what <= 2; what++) {
                CHECK.due("promise 10, NONE: trace(" + k + ", " + what + ")", x.trace(k, what), -9);
            }
        }
        x.undo();
        CHECK.due("promise 10, what was UNDONE is NONE", x.trace(1, 0) + " " + x.trace(0, 0), "-9 1");
    }

    private static void counts() {
        ScopeTasks x = new ScopeTasks();
        int[] due = {1, 0, 1, 0, 0, 0, 0, 0, 0};
        for (int what = 0; what <= 8; what++) {
            CHECK.due("promise 19, count(" + what + ") of a new object", x.count(what), due[what]);
        }
        x.ticks(1);
        int[] later = {1, 1, 0, 0, 1, 2, 0, 0, 1};
        for (int what = 0; what <= 8; what++) {
            CHECK.due("promise 19, count(" + what + ") behind the end", x.count(what), later[what]);
        }
    }

    private static void countsOfTasks() {
        ScopeTasks x = CHECK.told("rbbbw9;t0;t0w9;t0w9;t0w9;c1 3;", 6);
        String[] due = {"1 0 0", "2 0 0", "2 1 0", "3 1 0", "3 0 1"};
        for (int tick = 0; tick < due.length; tick++) {
            CHECK.due("promise 19, RUNNING, CLOSING, ENDED at " + tick, x.count(2) + " " + x.count(3) + " " + x.count(4), due[tick]);
            x.ticks(1);
        }
        CHECK.due("promise 19, UNBEGUN ones count as TASKS", x.count(0), 5);
    }

    private static void countsAtTheirMost() {
        ScopeTasks x = CHECK.told("rbbbbbb;t0bw9;t0w9;t0w9;t0w9;t0w9;t0w9;t1w9;", 8);
        x.ticks(6);
        CHECK.due("promise 19, eight RUNNING", x.count(2), 8);
        x.ticks(12);
        CHECK.due("promise 19, eight ENDED", x.count(4), 8);
        CHECK.due("promise 19, the longest TRACE", x.count(5), 23);
        CHECK.due("promise 19, twelve may be UNDONE", x.count(8), 12);
        for (int i = 0; i < 8; i++) {
            x.sees(0, 1, 0);
        }
        CHECK.due("promise 19, six SEEN", x.count(6), 6);
        Check.write(x, " ".repeat(125));
        CHECK.due("promise 19, 120 letters", x.count(7), 120);
        CHECK.due("promise 19, eight TASKS", x.count(0), 8);
    }
}
