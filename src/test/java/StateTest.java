/** Promises 8 to 10 and 19: task, failure, trace, count. */
public final class StateTest {
    private static final Check CHECK = new Check("StateTest");

    public static void main(String[] args) {
        wrongNumbers();
        ofTasks();
        ofLists();
        ofTheTrace();
        counts();
        CHECK.end();
    }

    private static void wrongNumbers() {
        ScopeTasks x = CHECK.told("rb;t0;", 2);
        int[] noTask = {-1, 2, 8, Integer.MIN_VALUE, Integer.MAX_VALUE};
        for (int t : noTask) {
            CHECK.due("task(" + t + ", 0)", x.task(t, 0), -1);
            CHECK.due("failure(" + t + ", 0)", x.failure(t, 0), -1);
        }
        int[] below = {-1, Integer.MIN_VALUE};
        for (int k : below) {
            CHECK.due("task(0, " + k + ")", x.task(0, k), -1);
            CHECK.due("failure(0, " + k + ")", x.failure(0, k), -1);
            CHECK.due("trace(" + k + ", 0)", x.trace(k, 0), -1);
            CHECK.due("trace(0, " + k + ")", x.trace(0, k), -1);
            CHECK.due("count(" + k + ")", x.count(k), -1);
        }
        CHECK.due("task(0, 8)", x.task(0, 8), -1);
        CHECK.due("trace(0, 3)", x.trace(0, 3), -1);
        CHECK.due("count(9)", x.count(9), -1);
        CHECK.due("failure(0, most)", x.failure(0, Integer.MAX_VALUE), -9);
        CHECK.due("trace(most, 0)", x.trace(Integer.MAX_VALUE, 0), -9);
    }

    private static void ofTasks() {
        ScopeTasks x = CHECK.told("rbbw9;t0w1f7;t0bw9;t2w9;d0 20;d2 5;c1 2;", 7);
        x.ticks(3);
        String[] due = {"-9 0 0 2", "1 2 1 1", "-9 1 -9 -9", "2 1 1 0", "20 20 7 7", "0 0 0 0", "0 1 0 0", "6 0 8 0"};
        for (int what = 0; what < due.length; what++) {
            CHECK.due("task(t, " + what + ") at 3", Check.each(x, what), due[what]);
        }
        x.ticks(1);
        String[] later = {"-9 0 0 2", "2 3 1 1", "1 1 -9 -9", "2 1 1 0", "20 20 7 7", "0 0 1 0", "1 1 0 0", "4 0 8 0"};
        for (int what = 0; what < later.length; what++) {
            CHECK.due("task(t, " + what + ") at 4", Check.each(x, what), later[what]);
        }
    }

    private static void ofLists() {
        ScopeTasks x = CHECK.told("rbbj;g0;t0bf2;t0w9;t1w1f1;c1 1;g1;d2 3;", 8);
        x.ticks(12);
        CHECK.due("LIST of 3", Check.list(x, 3), "");
        CHECK.due("LIST of 1", Check.list(x, 1), "2");
        CHECK.due("LIST of 2", Check.list(x, 2), "10");
        CHECK.due("LIST of 0", Check.list(x, 0), "2 10");
        CHECK.due("failure(0, 1)", x.failure(0, 1), 10);
        CHECK.due("failure(0, 2)", x.failure(0, 2), -9);
        ScopeTasks full = CHECK.told("rbbbbbj;t0bjf8;t0f2;t0f3;t0f4;t0f5;t1bjf6;t6f7;g0;g1;g6;d0 8;", 12);
        full.ticks(12);
        CHECK.due("LIST of the ROOT", Check.list(full, 0), "2 3 4 5 7 6 8 10");
        CHECK.due("LIST of 1", Check.list(full, 1), "7 6 8");
        CHECK.due("failure(0, 7)", full.failure(0, 7), 10);
        CHECK.due("failure(0, 8)", full.failure(0, 8), -9);
    }

    private static void ofTheTrace() {
        ScopeTasks x = CHECK.told("rb;t0f1;", 2);
        CHECK.due("trace(0, 0)", x.trace(0, 0), -9);
        x.ticks(12);
        int[][] events = {{1, 1, 0}, {2, 0, 1}, {2, 1, 1}, {2, 1, 2}, {2, 0, 2}};
        for (int k = 0; k < events.length; k++) {
            for (int what = 0; what < 3; what++) {
                CHECK.due("trace(" + k + ", " + what + ")", x.trace(k, what), events[k][what]);
            }
        }
        CHECK.due("trace(5, 0)", x.trace(5, 0), -9);
        CHECK.due("trace(5, 2)", x.trace(5, 2), -9);
        CHECK.due("trace(60, 1)", x.trace(60, 1), -9);
    }

    private static void counts() {
        ScopeTasks x = CHECK.told("rbbbw9;t0;t0w9;t0;c1 3;", 5);
        x.ticks(3);
        x.sees(1, 2, 0);
        x.sees(1, 2, 0);
        x.asks(2);
        x.type('r');
        int[] due = {4, 3, 3, 1, 0, 4, 2, 1, 4};
        for (int what = 0; what < due.length; what++) {
            CHECK.due("count(" + what + ")", x.count(what), due[what]);
        }
        x.ticks(1);
        int[] later = {4, 4, 1, 0, 3, 9, 2, 1, 5};
        for (int what = 0; what < later.length; what++) {
            CHECK.due("count(" + what + ") at 4", x.count(what), later[what]);
        }
    }
}
