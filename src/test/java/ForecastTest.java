/** Promises 11 to 13: ends, wellBy, spares. */
public final class ForecastTest {
    private static final Check CHECK = new Check("ForecastTest");
    private static final String CHAIN = "bjw9w9w9w9;";

    public static void main(String[] args) {
        wrongNumbers();
        endsOfEach();
        endsWithinTwoHundred();
        wellBy();
        wellByFromTheBeginning();
        spares();
        sparesWithinTwoHundred();
        nothingIsChanged();
        eachByWhatWasTold();
        CHECK.end();
    }

    /** A chain of eight TASKS, ENDED at 328, 290, 252, 214, 176, 138, 100 and 62. */
    private static ScopeTasks longChain() {
        StringBuilder text = new StringBuilder("r").append(CHAIN);
        for (int parent = 0; parent < 6; parent++) {
            text.append('t').append(parent).append(CHAIN);
        }
        return CHECK.told(text.append("t6w9w9w9w9w9w9;").toString(), 8);
    }

    private static void wrongNumbers() {
        ScopeTasks x = CHECK.told("r;t0;", 2);
        int[][] wrong = {{-1, 0}, {2, 0}, {8, 0}, {0, 2}, {0, -1}, {Integer.MAX_VALUE, 1}, {Integer.MIN_VALUE, 1}};
        for (int[] pair : wrong) {
            CHECK.due("ends(" + pair[0] + ", " + pair[1] + ")", x.ends(pair[0], pair[1]), -1);
        }
        int[] noTask = {-1, 2, 8, Integer.MAX_VALUE, Integer.MIN_VALUE};
        for (int t : noTask) {
            CHECK.due("spares(" + t + ")", x.spares(t), -1000000);
        }
    }

    private static void endsOfEach() {
        ScopeTasks x = CHECK.told("rbbbxj;t0f1;t0w9;t0w2;t0;s2 1;c3 2;g0;", 8);
        String dueEnds = "14 2 12 5 -9";
        String dueOut = "1 1 2 2 -9";
        for (int tick = 0; tick < 15; tick++) {
            StringBuilder ends = new StringBuilder();
            StringBuilder outs = new StringBuilder();
            for (int t = 0; t < 5; t++) {
                ends.append(t == 0 ? "" : " ").append(x.ends(t, 0));
                outs.append(t == 0 ? "" : " ").append(x.ends(t, 1));
            }
            CHECK.due("ENDS at " + tick, ends.toString(), dueEnds);
            CHECK.due("OUT at " + tick, outs.toString(), dueOut);
            x.ticks(1);
        }
        ScopeTasks late = CHECK.told("rw9;d0 3;c0 2;", 3);
        CHECK.due("ends(0, 0)", late.ends(0, 0), 5);
        CHECK.due("ends(0, 1)", late.ends(0, 1), 3);
        late.asks(0);
        CHECK.due("ends(0, 0) ASKED", late.ends(0, 0), 2);
        CHECK.due("ends(0, 1) ASKED", late.ends(0, 1), 2);
    }

    private static void endsWithinTwoHundred() {
        ScopeTasks x = longChain();
        int[] due = {-9, -9, -9, -9, 176, 138, 100, 62};
        for (int t = 0; t < 8; t++) {
            CHECK.due("ends(" + t + ", 0)", x.ends(t, 0), due[t]);
            CHECK.due("ends(" + t + ", 1)", x.ends(t, 1), due[t] < 0 ? -9 : 0);
        }
        Check.passTicks(x, 13);
        CHECK.due("ends(3, 0) at 13", x.ends(3, 0), -9);
        CHECK.due("ends(3, 1) at 13", x.ends(3, 1), -9);
        x.ticks(1);
        CHECK.due("ends(3, 0) at 14", x.ends(3, 0), 214);
        CHECK.due("ends(3, 1) at 14", x.ends(3, 1), 0);
        CHECK.due("ends(2, 0) at 14", x.ends(2, 0), -9);
    }

    private static void wellBy() {
        CHECK.due("wellBy() of no OPERATIONS", new ScopeTasks().wellBy(), 1);
        CHECK.due("wellBy()", CHECK.told("rw9;", 1).wellBy(), 10);
        CHECK.due("wellBy() with a CLEAN-UP", CHECK.told("rw9;c0 5;", 2).wellBy(), 10);
        CHECK.due("wellBy() of a failure", CHECK.told("rf1;", 1).wellBy(), -9);
        CHECK.due("wellBy() of a child's failure", CHECK.told("rbj;t0w5;d1 3;", 3).wellBy(), -9);
        CHECK.due("wellBy() of a child in time", CHECK.told("rbj;t0w5;d1 6;", 3).wellBy(), 9);
        CHECK.due("wellBy() of a child behind it", CHECK.told("rb;t0w5;", 2).wellBy(), 7);
        CHECK.due("wellBy() of all works", CHECK.told("rw9w9w9w9w9w9;", 1).wellBy(), 55);
        CHECK.due("wellBy() of 60", CHECK.told("rb;t0b;t1b;t2b;t3b;t4w9w9w9w9w9w9;", 6).wellBy(), 60);
        CHECK.due("wellBy() of 61", CHECK.told("rb;t0b;t1b;t2b;t3b;t4b;t5w9w9w9w9w9w9;", 7).wellBy(), -9);
        CHECK.due("wellBy() of 328", longChain().wellBy(), -9);
    }

    private static void wellByFromTheBeginning() {
        ScopeTasks x = CHECK.told("rw9;d0 2;", 2);
        CHECK.due("wellBy() whatever DEADLINE was told", x.wellBy(), 10);
        x.asks(0);
        CHECK.due("wellBy() ASKED", x.wellBy(), 10);
        x.ticks(1);
        CHECK.due("wellBy() behind the end", x.wellBy(), 10);
        CHECK.due("DUE", x.task(0, 4), 2);
    }

    private static void spares() {
        ScopeTasks x = CHECK.told("rbbj;t0w3f1;t0w9;t0;", 4);
        CHECK.due("spares(0)", x.spares(0), 5);
        CHECK.due("spares(1) UNBEGUN", x.spares(1), -1000000);
        x.ticks(2);
        // Without the failure of 1, the ROOT waits for 2.
        CHECK.due("ends(0, 0)", x.ends(0, 0), 6);
        CHECK.due("spares(1)", x.spares(1), 6 - 14);
        CHECK.due("spares(2)", x.spares(2), 1);
        CHECK.due("spares(3)", x.spares(3), -1000000);
        x.ticks(3);
        CHECK.due("spares(0) CLOSING", x.spares(0), -1000000);
        CHECK.due("spares(1) ENDED", x.spares(1), -1000000);
        CHECK.due("spares(2) ASKED", x.spares(2), 0);
        x.ticks(1);
        CHECK.due("spares(0) ENDED", x.spares(0), -1000000);
        ScopeTasks asked = CHECK.told("rw9w9;s0 1;", 2);
        CHECK.due("spares(0)", asked.spares(0), 19 - 10);
        asked.asks(0);
        CHECK.due("spares(0) ASKED", asked.spares(0), 0);
    }

    private static void sparesWithinTwoHundred() {
        ScopeTasks x = longChain();
        CHECK.due("spares(0)", x.spares(0), -1000000);
        Check.passTicks(x, 127);
        CHECK.due("spares(0) at 127", x.spares(0), -1000000);
        x.ticks(1);
        CHECK.due("spares(0) at 128", x.spares(0), 328 - 129);
        ScopeTasks later = CHECK.told("rbbj;t0w5f1;t0" + CHAIN + "t2" + CHAIN + "t3" + CHAIN + "t4" + CHAIN + "t5" + CHAIN
            + "t6w9w9w9w9w9w9;", 8);
        later.ticks(1);
        CHECK.due("ends(0, 0)", later.ends(0, 0), 8);
        CHECK.due("spares(1): not with it", later.spares(1), -1000000);
    }

    /** What one call supposes must not reach the next one. */
    private static void eachByWhatWasTold() {
        ScopeTasks x = CHECK.told("rb;t0w9;d0 20;d1 20;", 4);
        x.sees(1, 5, 1);
        for (int i = 0; i < 3; i++) {
            CHECK.due("wellBy()", x.wellBy(), 11);
            CHECK.due("ends(1, 0) behind wellBy()", x.ends(1, 0), 11);
            CHECK.due("fits(1)", x.fits(1), 0xe);
            CHECK.due("spares(0) behind fits()", x.spares(0), 10);
            CHECK.due("fits(0)", x.fits(0), 0x1e);
            CHECK.due("ends(0, 1) behind fits()", x.ends(0, 1), 0);
        }
        x.ticks(2);
        CHECK.due("wellBy()", x.wellBy(), 11);
        CHECK.due("ends(1, 0) at 2", x.ends(1, 0), 11);
        CHECK.due("spares(1) at 2", x.spares(1), 8);
    }

    private static void nothingIsChanged() {
        ScopeTasks x = CHECK.told("rbbj;t0w3f1;t0w9;d0 30;", 4);
        x.ticks(3);
        x.keep(0);
        for (int t = 0; t < 3; t++) {
            x.ends(t, 0);
            x.spares(t);
        }
        CHECK.due("wellBy()", x.wellBy(), -9);
        CHECK.due("ends(0, 0) behind wellBy()", x.ends(0, 0), 6);
        CHECK.due("ends(0, 1) behind wellBy()", x.ends(0, 1), 1);
        int[] counts = {3, 3, 3, 0, 0, 2, 0, 0, 3};
        for (int what = 0; what < counts.length; what++) {
            CHECK.due("count(" + what + ")", x.count(what), counts[what]);
        }
        CHECK.due("asked", Check.each(x, 5), "0 0 0");
        CHECK.due("DUE", Check.each(x, 4), "30 30 30");
        x.ticks(12);
        CHECK.due("trace", Check.trace(x), "1:1:0 2:2:0 5:1:1 5:1:2 5:0:1 6:2:1 6:2:2 6:0:2");
    }
}
