import java.lang.reflect.Field;

/**
 * Edges that the document names and that no run of calls comes to (NOTES.md says why): FULL of ticks (promise 5), a ninth
 * code of a LIST (promise 9), a 61st event of the TRACE (promise 10). The state is set by hand, where it is held under the
 * names used here; a class that holds it another way has nothing to show.
 */
public final class UnreachableTest {
    private static final Check CHECK = new Check("UnreachableTest");

    public static void main(String[] args) throws Exception {
        try {
            tickIsAtMost999();
            aListHasEightCodesAtMost();
            codesBeyondEightAreLost();
            theTraceHasSixtyEventsAtMost();
        } catch (NoSuchFieldException e) {
            System.out.println("UnreachableTest: not tried, there is no " + e.getMessage());
        }
        CHECK.end();
    }

    private static Object now(ScopeTasks x) throws Exception {
        return field(x, "now").get(x);
    }

    private static Field field(Object of, String name) throws Exception {
        Field field = of.getClass().getDeclaredField(name);
        field.setAccessible(true);
        return field;
    }

    private static void set(ScopeTasks x, String name, int value) throws Exception {
        field(now(x), name).setInt(now(x), value);
    }

    private static int[] row(ScopeTasks x, String name) throws Exception {
        return (int[]) field(now(x), name).get(now(x));
    }

    private static ScopeTasks atTick(String text, int items, int tick) throws Exception {
        ScopeTasks x = CHECK.told(text, items);
        set(x, "tick", tick);
        return x;
    }

    private static void tickIsAtMost999() throws Exception {
        for (int n = 1; n <= 12; n++) {
            ScopeTasks x = atTick("rw9w9;", 1, 999 - n);
            CHECK.due("promise 5, 999: ticks(" + n + ")", x.ticks(n), 999);
            CHECK.due("promise 5, FULL behind 999", x.ticks(1), -3);
            CHECK.due("promise 5, FULL behind 999, 12", x.ticks(12), -3);
            CHECK.due("promise 5, BAD ahead of FULL", x.ticks(0) + " " + x.ticks(13), "-1 -1");
            CHECK.due("promise 5, nothing changes", x.count(1) + " " + x.count(8), "999 " + n);
            ScopeTasks full = atTick("rw9w9;", 1, 1000 - n);
            CHECK.due("promise 5, FULL: ticks(" + n + ") at " + (1000 - n), full.ticks(n), -3);
            CHECK.due("promise 5, nothing changes", full.count(1) + " " + full.count(8), (1000 - n) + " 0");
        }
        ScopeTasks ended = atTick("r;", 1, 998);
        CHECK.due("promise 5, the ROOT is ENDED at 999", ended.ticks(1), 999);
        CHECK.due("promise 5, STATE ahead of FULL", ended.ticks(1), -2);
    }

    private static ScopeTasks withCodes(String text, int items, int codes) throws Exception {
        ScopeTasks x = CHECK.told(text, items);
        for (int k = 0; k < codes; k++) {
            row(x, "list")[k] = 1;
        }
        row(x, "codes")[0] = codes;
        return x;
    }

    private static void aListHasEightCodesAtMost() throws Exception {
        ScopeTasks eight = withCodes("rf9;", 1, 7);
        eight.ticks(1);
        CHECK.due("promise 9, the eighth code", Check.list(eight, 0), "1 1 1 1 1 1 1 9");
        ScopeTasks nine = withCodes("rf9;t0;", 2, 8);
        nine.ticks(1);
        CHECK.due("promise 9, a ninth code is lost", Check.list(nine, 0), "1 1 1 1 1 1 1 1");
        CHECK.due("promise 9, no ninth code", nine.failure(0, 8) + " " + nine.failure(1, 0), "-9 -9");
        CHECK.due("promise 8, eight codes", nine.task(0, 6) + " " + nine.task(0, 2), "8 1");
        ScopeTasks late = withCodes("rw9;d0 1;", 2, 8);
        late.ticks(2);
        CHECK.due("promise 9, a ninth code of one that is LATE", Check.list(late, 0), "1 1 1 1 1 1 1 1");
    }

    private static void codesBeyondEightAreLost() throws Exception {
        for (int there = 5; there <= 8; there++) {
            ScopeTasks x = withCodes("rbj;g0;t0bjf7;g1;t1f8;", 5, there);
            x.ticks(12);
            String want = "1 1 1 1 1 1 1 1".substring(0, there * 2 - 1) + " 8 7";
            CHECK.due("promise 9, two codes come behind " + there, Check.list(x, 0), want.substring(0, Math.min(15, want.length())));
            CHECK.due("promise 8, how many codes", x.task(0, 6), Math.min(8, there + 2));
        }
    }

    private static void theTraceHasSixtyEventsAtMost() throws Exception {
        ScopeTasks x = CHECK.told("rb;t0;", 2);
        set(x, "events", 57);
        x.ticks(12);
        CHECK.due("promise 19, sixty events", x.count(5), 60);
        CHECK.due("promise 10, the last three", event(x, 57) + event(x, 58) + event(x, 59), "1:1:0 2:0:1 2:1:1 ");
        CHECK.due("promise 10, what is beyond sixty is lost", x.trace(60, 0) + " " + x.trace(60, 2), "-9 -9");
        CHECK.due("promise 5, it goes on", Check.each(x, 1), "3 3");
    }

    private static String event(ScopeTasks x, int k) {
        return x.trace(k, 0) + ":" + x.trace(k, 1) + ":" + x.trace(k, 2) + " ";
    }
}
