/** Promises 5 to 7: ticks, asks, undo; and what a TICK does. */
public final class ActsTest {
    private static final Check CHECK = new Check("ActsTest");

    public static void main(String[] args) {
        refusedTicks();
        stopsAtTheEnd();
        workAndOrder();
        joins();
        beginsTheLowest();
        cancelsByX();
        shields();
        cleanUpsOnce();
        deadlines();
        failuresStop();
        failuresGather();
        closingWellFails();
        cancelledGivesNothing();
        asks();
        undo();
        undoKnowsTwelve();
        CHECK.end();
    }

    private static void refusedTicks() {
        ScopeTasks x = CHECK.told("rw9w9;", 1);
        CHECK.due("ticks(0)", x.ticks(0), -1);
        CHECK.due("ticks(-1)", x.ticks(-1), -1);
        CHECK.due("ticks(13)", x.ticks(13), -1);
        CHECK.due("ticks(most)", x.ticks(Integer.MAX_VALUE), -1);
        CHECK.due("count(1)", x.count(1), 0);
        CHECK.due("ticks(12)", x.ticks(12), 12);
        CHECK.due("ticks(1)", x.ticks(1), 13);
        CHECK.due("count(1)", x.count(1), 13);
    }

    private static void stopsAtTheEnd() {
        ScopeTasks x = CHECK.told("rw2;", 1);
        CHECK.due("ticks(12)", x.ticks(12), 3);
        CHECK.due("count(8)", x.count(8), 3);
        CHECK.due("ticks(1) behind the end", x.ticks(1), -2);
        CHECK.due("ticks(0) behind the end", x.ticks(0), -1);
        CHECK.due("count(1)", x.count(1), 3);
    }

    private static void workAndOrder() {
        ScopeTasks x = CHECK.told("rw2b;t0w1;t1;", 3);
        String[] behind = {"0 0 0", "1 0 0", "2 0 0", "2 1 0", "2 1 0"};
        for (int tick = 1; tick <= 5; tick++) {
            CHECK.due("ticks(1)", x.ticks(1), tick);
            CHECK.due("behind at " + tick, Check.each(x, 3), behind[tick - 1]);
        }
        CHECK.due("how", Check.each(x, 1), "3 3 0");
        CHECK.due("out", Check.each(x, 2), "0 0 -9");
        CHECK.due("trace", Check.trace(x), "3:1:0 4:0:1 5:1:1 5:1:2 5:0:2");
    }

    private static void joins() {
        ScopeTasks x = CHECK.told("rjbbj;t0w2;t0w1;c1 1;", 4);
        String[] behind = {"1", "2", "3", "3", "3", "4", "4"};
        for (int tick = 1; tick <= 7; tick++) {
            x.ticks(1);
            CHECK.due("behind at " + tick, x.task(0, 3) + "", behind[tick - 1]);
        }
        CHECK.due("trace", Check.trace(x), "2:1:0 3:2:0 5:1:1 5:2:1 5:2:2 5:1:2 7:0:1 7:0:2");
        CHECK.due("out", x.task(0, 2), 0);
    }

    private static void beginsTheLowest() {
        ScopeTasks x = CHECK.told("rbbbj;t0bw9;t1w9;t0w9;", 4);
        x.ticks(2);
        CHECK.due("how at 2", Check.each(x, 1), "1 1 1 1");
        CHECK.due("children at 2", Check.each(x, 7), "10 4 0 0");
        x.ticks(1);
        CHECK.due("behind at 3", Check.each(x, 3), "3 1 0 0");
        CHECK.due("trace at 3", Check.trace(x), "1:1:0 2:3:0 2:2:0");
    }

    private static void cancelsByX() {
        ScopeTasks x = CHECK.told("rbbxw3;t0bw9;t0w9;t1w9;t0w9;", 5);
        x.ticks(2);
        CHECK.due("asked at 2", Check.each(x, 5), "0 0 0 0 0");
        x.ticks(1);
        CHECK.due("asked at 3", Check.each(x, 5), "0 1 1 1 0");
        CHECK.due("how at 3", Check.each(x, 1), "1 3 3 3 0");
        CHECK.due("out at 3", Check.each(x, 2), "-9 2 2 2 -9");
        CHECK.due("behind at 3", Check.each(x, 3), "3 1 0 0 0");
        CHECK.due("trace at 3", Check.trace(x), "1:1:0 2:2:0 2:3:0 3:1:1 3:2:1 3:3:1 3:3:2 3:2:2 3:1:2");
        x.ticks(1);
        CHECK.due("how at 4", Check.each(x, 1), "1 3 3 3 0");
        x.ticks(12);
        CHECK.due("out of the ROOT", x.task(0, 2), 0);
        CHECK.due("TICK", x.count(1), 7);
    }

    private static void shields() {
        ScopeTasks x = CHECK.told("rbxj;t0w2w1w1;s1 2;", 3);
        x.ticks(2);
        CHECK.due("asked", x.task(1, 5), 1);
        CHECK.due("how at 2", x.task(1, 1), 1);
        x.ticks(2);
        CHECK.due("how at 4", x.task(1, 1), 1);
        CHECK.due("behind at 4", x.task(1, 3), 2);
        x.ticks(1);
        CHECK.due("how at 5", x.task(1, 1), 3);
        CHECK.due("out at 5", x.task(1, 2), 2);
        ScopeTasks whole = CHECK.told("rbxj;t0w2;s1 2;", 3);
        whole.ticks(5);
        CHECK.due("a shield above the program: WELL", whole.task(1, 2), 0);
        ScopeTasks just = CHECK.told("rbxj;t0w2;s1 1;", 3);
        just.ticks(4);
        CHECK.due("over and behind its shield: CANCELLED", just.task(1, 2), 2);
    }

    private static void cleanUpsOnce() {
        ScopeTasks x = CHECK.told("rb;t0w1;c1 3;c0 2;", 4);
        x.ticks(4);
        CHECK.due("how at 4", Check.each(x, 1), "2 2");
        x.ticks(1);
        CHECK.due("how at 5", Check.each(x, 1), "2 3");
        x.ticks(1);
        CHECK.due("how at 6", Check.each(x, 1), "3 3");
        CHECK.due("trace", Check.trace(x), "1:1:0 2:0:1 3:1:1 5:1:2 6:0:2");
    }

    private static void deadlines() {
        ScopeTasks x = CHECK.told("rbw9;t0bw9;t1w9;d0 4;d1 9;d2 1;g1;", 7);
        x.ticks(2);
        CHECK.due("DUE", Check.each(x, 4), "4 4 3");
        x.ticks(1);
        CHECK.due("how at 3", Check.each(x, 1), "1 1 1");
        x.ticks(1);
        CHECK.due("how at 4", Check.each(x, 1), "1 1 3");
        CHECK.due("out at 4", Check.each(x, 2), "-9 -9 3");
        CHECK.due("LIST of 1", Check.list(x, 1), "10");
        x.ticks(1);
        CHECK.due("how at 5", Check.each(x, 1), "3 3 3");
        CHECK.due("out at 5", Check.each(x, 2), "3 3 3");
        CHECK.due("LIST of 1", Check.list(x, 1), "10 10");
        CHECK.due("LIST of 0", Check.list(x, 0), "10 10 10");
        CHECK.due("asked", Check.each(x, 5), "0 1 0");
        CHECK.due("trace", Check.trace(x), "1:1:0 2:2:0 4:2:1 4:2:2 5:0:1 5:1:1 5:1:2 5:0:2");
    }

    private static void failuresStop() {
        ScopeTasks x = CHECK.told("rbbw9;t0w1f3;t0w9;s2 1;c1 1;", 5);
        x.ticks(3);
        CHECK.due("how at 3", Check.each(x, 1), "2 3 1");
        CHECK.due("out at 3", Check.each(x, 2), "1 1 -9");
        CHECK.due("asked at 3", Check.each(x, 5), "0 0 1");
        CHECK.due("behind at 3", Check.each(x, 3), "2 1 0");
        CHECK.due("LIST of 0", Check.list(x, 0), "3");
        CHECK.due("LIST of 1", Check.list(x, 1), "3");
        x.ticks(12);
        CHECK.due("TICK", x.count(1), 12);
        CHECK.due("out", Check.each(x, 2), "1 1 2");
        CHECK.due("trace", Check.trace(x), "1:1:0 2:2:0 3:1:1 3:1:2 3:0:1 12:2:1 12:2:2 12:0:2");
    }

    private static void failuresGather() {
        ScopeTasks x = CHECK.told("rbbbj;g0;t0w3f1;t0f2;t0w9;s3 1;", 6);
        x.ticks(5);
        CHECK.due("how at 5", Check.each(x, 1), "1 3 3 1");
        CHECK.due("LIST of 0, in order of the ends", Check.list(x, 0), "2 1");
        CHECK.due("asked", Check.each(x, 5), "0 0 0 0");
        x.ticks(12);
        CHECK.due("out", Check.each(x, 2), "1 1 1 0");
        CHECK.due("TICK", x.count(1), 15);
        ScopeTasks asks = CHECK.told("rbbw2;g0;t0f2;t0w9;s2 1;", 5);
        asks.ticks(5);
        CHECK.due("a LIST that is not empty: FAILED", Check.each(asks, 2), "1 1 -9");
        CHECK.due("a LIST that is not empty: ASKED", Check.each(asks, 5), "0 0 1");
        CHECK.due("how at 5", Check.each(asks, 1), "2 3 1");
        asks.ticks(7);
        CHECK.due("how at 12", Check.each(asks, 1), "3 3 3");
        CHECK.due("out at 12", Check.each(asks, 2), "1 1 2");
    }

    private static void closingWellFails() {
        for (String gathers : new String[] {"", "g0;"}) {
            ScopeTasks x = CHECK.told("rbb;t0w2f4;t0w9;" + gathers, gathers.isEmpty() ? 3 : 4);
            x.ticks(3);
            CHECK.due("out at 3", Check.each(x, 2), "0 -9 -9");
            CHECK.due("asked at 3", Check.each(x, 5), "0 0 0");
            x.ticks(1);
            CHECK.due("out at 4", Check.each(x, 2), "1 1 -9");
            CHECK.due("asked at 4", Check.each(x, 5), "0 0 1");
            x.ticks(1);
            CHECK.due("out at 5", Check.each(x, 2), "1 1 2");
            CHECK.due("trace", Check.trace(x), "1:1:0 2:2:0 3:0:1 4:1:1 4:1:2 5:2:1 5:2:2 5:0:2");
        }
    }

    private static void cancelledGivesNothing() {
        ScopeTasks x = CHECK.told("rbw3xj;t0bw9;t1f5;g1;", 4);
        x.ticks(3);
        CHECK.due("LIST of 1", Check.list(x, 1), "5");
        x.ticks(12);
        CHECK.due("out", Check.each(x, 2), "0 2 1");
        CHECK.due("codes", Check.each(x, 6), "0 1 1");
    }

    private static void asks() {
        ScopeTasks x = CHECK.told("rw1bw9;t0w1w9;t0;", 3);
        CHECK.due("asks(-1)", x.asks(-1), -1);
        CHECK.due("asks(3)", x.asks(3), -1);
        CHECK.due("asks(1) UNBEGUN", x.asks(1), -2);
        x.ticks(3);
        CHECK.due("asks(1)", x.asks(1), 1);
        CHECK.due("asks(1) again", x.asks(1), -2);
        CHECK.due("task(1, 5)", x.task(1, 5), 1);
        CHECK.due("task(1, 1)", x.task(1, 1), 1);
        CHECK.due("count(8)", x.count(8), 4);
        CHECK.due("asks(0)", x.asks(0), 2);
        x.ticks(1);
        CHECK.due("out", Check.each(x, 2), "2 2 -9");
        CHECK.due("asks(1) ENDED", x.asks(1), -2);
        CHECK.due("asks(0) ENDED", x.asks(0), -2);
        ScopeTasks closing = CHECK.told("r;c0 2;", 2);
        closing.ticks(1);
        CHECK.due("asks(0) CLOSING", closing.asks(0), -2);
    }

    private static void undo() {
        ScopeTasks x = CHECK.told("rbw2;t0f1;c1 2;", 3);
        CHECK.due("undo()", x.undo(), -2);
        x.ticks(2);
        x.asks(0);
        x.ticks(1);
        CHECK.due("how", Check.each(x, 1), "3 3");
        CHECK.due("count(8)", x.count(8), 4);
        CHECK.due("asks(0) refused", x.asks(0), -2);
        CHECK.due("ticks(0) refused", x.ticks(0), -1);
        CHECK.due("undo() of the last TICK", x.undo(), 3);
        CHECK.due("how", Check.each(x, 1), "1 2");
        CHECK.due("count(1)", x.count(1), 2);
        CHECK.due("trace", Check.trace(x), "1:1:0 2:1:1");
        CHECK.due("asked", Check.each(x, 5), "1 0");
        CHECK.due("codes", Check.each(x, 6), "0 1");
        CHECK.due("undo() of asks", x.undo(), 2);
        CHECK.due("asked", Check.each(x, 5), "0 0");
        CHECK.due("undo()", x.undo(), 1);
        CHECK.due("behind", Check.each(x, 3), "1 0");
        CHECK.due("codes", Check.each(x, 6), "0 0");
        CHECK.due("undo()", x.undo(), 0);
        CHECK.due("count(1)", x.count(1), 0);
        CHECK.due("how", Check.each(x, 1), "1 0");
        CHECK.due("DUE", Check.each(x, 4), "-9 -9");
        CHECK.due("undo()", x.undo(), -2);
        x.ticks(12);
        CHECK.due("trace again", Check.trace(x), "1:1:0 2:1:1 3:1:2 3:0:1 3:0:2");
    }

    private static void undoKnowsTwelve() {
        ScopeTasks x = CHECK.told("rw9w9w9;", 1);
        x.ticks(12);
        CHECK.due("count(8)", x.count(8), 12);
        x.ticks(3);
        x.asks(0);
        CHECK.due("count(8)", x.count(8), 12);
        CHECK.due("undo()", x.undo(), 11);
        CHECK.due("count(1)", x.count(1), 15);
        for (int left = 10; left >= 0; left--) {
            CHECK.due("undo()", x.undo(), left);
            CHECK.due("count(1)", x.count(1), 4 + left);
        }
        CHECK.due("undo()", x.undo(), -2);
        CHECK.due("count(1)", x.count(1), 4);
        CHECK.due("ends(0, 0)", x.ends(0, 0), 28);
    }
}
