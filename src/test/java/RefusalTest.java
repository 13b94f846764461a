import java.util.LinkedHashMap;
import java.util.Map;

/** Refused, and nothing changes, the first of these: BAD, STATE, FULL. For each call that can be refused, or that only tells. */
public final class RefusalTest {
    private static final Check CHECK = new Check("RefusalTest");
    private static final int NO = -1000000;

    /** A call on an object. */
    private interface Call {
        int on(ScopeTasks x);
    }

    /** A way to an object, by few calls. */
    private interface Way {
        ScopeTasks go();
    }

    private static final Map<String, Call> BAD = new LinkedHashMap<>();

    public static void main(String[] args) {
        badCalls();
        badCallsOfImages();
        for (Map.Entry<String, Call> bad : BAD.entrySet()) {
            String name = bad.getKey() + ", nothing changes";
            refused(name + ", busy", RefusalTest::busy, bad.getValue(), -1);
            refused(name + ", full", RefusalTest::full, bad.getValue(), -1);
            refused(name + ", new", ScopeTasks::new, bad.getValue(), -1);
        }
        states();
        fulls();
        faults();
        none();
        telling();
        CHECK.end();
    }

    private static void badCalls() {
        BAD.put("promise 2, type(-1)", x -> x.type(-1));
        BAD.put("promise 2, type(256)", x -> x.type(256));
        BAD.put("promise 5, ticks(0)", x -> x.ticks(0));
        BAD.put("promise 5, ticks(13)", x -> x.ticks(13));
        BAD.put("promise 5, ticks(-1)", x -> x.ticks(-1));
        BAD.put("promise 6, asks(-1)", x -> x.asks(-1));
        BAD.put("promise 6, asks(4)", x -> x.asks(4));
        BAD.put("promise 6, asks(8)", x -> x.asks(8));
        BAD.put("promise 8, task(-1, 0)", x -> x.task(-1, 0));
        BAD.put("promise 8, task(4, 0)", x -> x.task(4, 0));
        BAD.put("promise 8, task(0, -1)", x -> x.task(0, -1));
        BAD.put("promise 8, task(0, 8)", x -> x.task(0, 8));
        BAD.put("promise 9, failure(-1, 0)", x -> x.failure(-1, 0));
        BAD.put("promise 9, failure(4, 0)", x -> x.failure(4, 0));
        BAD.put("promise 9, failure(0, -1)", x -> x.failure(0, -1));
        BAD.put("promise 10, trace(-1, 0)", x -> x.trace(-1, 0));
        BAD.put("promise 10, trace(0, -1)", x -> x.trace(0, -1));
        BAD.put("promise 10, trace(0, 3)", x -> x.trace(0, 3));
        BAD.put("promise 10, trace(99, 3)", x -> x.trace(99, 3));
        BAD.put("promise 11, ends(-1, 0)", x -> x.ends(-1, 0));
        BAD.put("promise 11, ends(4, 1)", x -> x.ends(4, 1));
        BAD.put("promise 11, ends(0, -1)", x -> x.ends(0, -1));
        BAD.put("promise 11, ends(0, 2)", x -> x.ends(0, 2));
    }

    private static void badCallsOfImages() {
        BAD.put("promise 14, sees(-1, 1, 0)", x -> x.sees(-1, 1, 0));
        BAD.put("promise 14, sees(4, 1, 0)", x -> x.sees(4, 1, 0));
        BAD.put("promise 14, sees(0, 0, 0)", x -> x.sees(0, 0, 0));
        BAD.put("promise 14, sees(0, 61, 1)", x -> x.sees(0, 61, 1));
        BAD.put("promise 14, sees(0, 1, -1)", x -> x.sees(0, 1, -1));
        BAD.put("promise 14, sees(0, 1, 2)", x -> x.sees(0, 1, 2));
        BAD.put("promise 16, fits(-1)", x -> x.fits(-1));
        BAD.put("promise 16, fits(4)", x -> x.fits(4));
        BAD.put("promise 17, keep(-1)", x -> x.keep(-1));
        BAD.put("promise 17, keep(2)", x -> x.keep(2));
        BAD.put("promise 18, back(-1)", x -> x.back(-1));
        BAD.put("promise 18, back(2)", x -> x.back(2));
        BAD.put("promise 19, count(-1)", x -> x.count(-1));
        BAD.put("promise 19, count(9)", x -> x.count(9));
    }

    /** Four TASKS: RUNNING, ENDED, RUNNING and ASKED, UNBEGUN; acts, an image, one SEEN, a text. */
    private static ScopeTasks busy() {
        ScopeTasks x = new ScopeTasks();
        Check.write(x, "rbbw9;t0f3;t0w9;t0;g0;s2 1;");
        x.tree();
        x.ticks(2);
        x.keep(0);
        x.ticks(1);
        x.asks(2);
        x.sees(2, 9, 0);
        Check.write(x, "rw2;t0;");
        return x;
    }

    /** Nothing more is possible: the ROOT is ENDED, six are SEEN, THE TEXT has 120 letters. */
    private static ScopeTasks full() {
        ScopeTasks x = new ScopeTasks();
        x.keep(1);
        x.ticks(1);
        for (int n = 1; n <= 6; n++) {
            x.sees(0, n, 1);
        }
        Check.write(x, " ".repeat(118) + "r;");
        return x;
    }

    private static void refused(String name, Way way, Call call, int want) {
        ScopeTasks x = way.go();
        CHECK.due(name, call.on(x), want);
        CHECK.due(name, Check.everything(x), Check.everything(way.go()));
    }

    private static void states() {
        refused("promise 5, STATE: the ROOT is ENDED", RefusalTest::full, x -> x.ticks(1), -2);
        refused("promise 5, STATE: the ROOT is ENDED, 12", RefusalTest::full, x -> x.ticks(12), -2);
        refused("promise 6, STATE: UNBEGUN", RefusalTest::busy, x -> x.asks(3), -2);
        refused("promise 6, STATE: ENDED", RefusalTest::busy, x -> x.asks(1), -2);
        refused("promise 6, STATE: ASKED", RefusalTest::busy, x -> x.asks(2), -2);
        refused("promise 6, STATE: the ROOT is ENDED", RefusalTest::full, x -> x.asks(0), -2);
        refused("promise 7, STATE: none", ScopeTasks::new, ScopeTasks::undo, -2);
        refused("promise 18, STATE: none was kept", RefusalTest::busy, x -> x.back(1), -2);
        refused("promise 18, STATE: none was kept, full", RefusalTest::full, x -> x.back(0), -2);
    }

    private static void fulls() {
        refused("promise 2, FULL", RefusalTest::full, x -> x.type('r'), -3);
        refused("promise 2, FULL, 255", RefusalTest::full, x -> x.type(255), -3);
        refused("promise 14, FULL", RefusalTest::full, x -> x.sees(0, 1, 0), -3);
        refused("promise 14, FULL, 60", RefusalTest::full, x -> x.sees(0, 60, 1), -3);
    }

    private static void faults() {
        String[] texts = {"t0;", "rw0;", "r;t0;t0;g1;g1;", "r;t0w9;d1 5;c1 5;s1 6;g0;y", "rw9w9w9w9w9w9w9;", "r;d0 61;", "rb"};
        int[] places = {0, 2, 12, 25, 13, 5, 2};
        for (int i = 0; i < texts.length; i++) {
            String text = texts[i];
            ScopeTasks x = busy();
            x.clear();
            Check.write(x, text);
            ScopeTasks same = busy();
            same.clear();
            Check.write(same, text);
            String name = "promise 4, nothing changes at the FAULT of \"" + text + "\"";
            CHECK.due(name, x.tree(), -10 - places[i]);
            CHECK.due(name, Check.everything(x), Check.everything(same));
        }
    }

    private static void none() {
        refused("promise 9, NONE", RefusalTest::busy, x -> x.failure(1, 1), -9);
        refused("promise 10, NONE", RefusalTest::busy, x -> x.trace(60, 2), -9);
        refused("promise 11, NONE", RefusalTest::busy, x -> x.ends(3, 0), -9);
        refused("promise 12, NONE", RefusalTest::busy, ScopeTasks::wellBy, -9);
        refused("promise 13, NO: BAD", RefusalTest::busy, x -> x.spares(4), NO);
        refused("promise 13, NO: BAD, -1", RefusalTest::busy, x -> x.spares(-1), NO);
        refused("promise 13, NO: UNBEGUN", RefusalTest::busy, x -> x.spares(3), NO);
        refused("promise 13, NO: ENDED", RefusalTest::busy, x -> x.spares(1), NO);
        refused("promise 3, clear() of no letter", ScopeTasks::new, ScopeTasks::clear, 0);
        refused("promise 15, forget() of nothing", ScopeTasks::new, ScopeTasks::forget, 0);
    }

    private static void telling() {
        refused("promise 8, DUE", RefusalTest::busy, x -> x.task(0, 4), -9);
        refused("promise 9, a code", RefusalTest::busy, x -> x.failure(0, 0), 3);
        refused("promise 10, an event", RefusalTest::busy, x -> x.trace(0, 0), 1);
        refused("promise 11, ENDS", RefusalTest::busy, x -> x.ends(0, 0), 12);
        refused("promise 12, WELL BY", RefusalTest::full, ScopeTasks::wellBy, 1);
        refused("promise 13, SPARES", RefusalTest::busy, x -> x.spares(0), 0);
        refused("promise 16, FITS", RefusalTest::busy, x -> x.fits(2), 0x7fffff80);
        refused("promise 19, how many may be UNDONE", RefusalTest::busy, x -> x.count(8), 4);
    }
}
