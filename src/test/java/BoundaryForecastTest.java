/** The edges that the document names for promises 11 to 13 (ends, wellBy, spares): a test for each sentence. */
public final class BoundaryForecastTest {
    private static final Check CHECK = new Check("BoundaryForecastTest");
    private static final String LONG = "bjw9w9w9w9;";

    public static void main(String[] args) {
        noSuchThing();
        endsInTheNextTick();
        endsWithinTwoHundredMore();
        endsThatHadBeen();
        endsOfOneThatIsNeverBegun();
        outOfEachKind();
        wellByOneToSixty();
        wellByIsTheLeast();
        wellByNone();
        wellByFromTheBeginning();
        sparesOfOneThatIsRunning();
        sparesSoonerOrLater();
        sparesWithoutItWithinTwoHundred();
        sparesWithItWithinTwoHundred();
        sparesOfOneThatIsAsked();
        nothingIsChanged();
        CHECK.end();
    }

    /** The ROOT is ENDED at 193 and the work of the lowest TASK's last w. */
    private static ScopeTasks endsAt(int tick) {
        String text = "r" + LONG + "t0" + LONG + "t1" + LONG + "t2" + LONG + "t3w9w9w9w9w" + (tick - 193) + ";";
        return CHECK.told(text, 5);
    }

    private static String forecast(ScopeTasks x, int t) {
        return x.ends(t, 0) + " " + x.ends(t, 1);
    }

    private static void noSuchThing() {
        ScopeTasks x = CHECK.told("rbw9;t0w9;", 2);
        x.ticks(1);
        int[] noTask = {-1, 2, 7, 8, 256, Integer.MIN_VALUE, Integer.MAX_VALUE};
        for (int t : noTask) {
            CHECK.due("promise 11, BAD: ends(" + t + ", 0)", x.ends(t, 0), -1);
            CHECK.due("promise 11, BAD: ends(" + t + ", 1)", x.ends(t, 1), -1);
            CHECK.due("promise 13, NO of BAD: spares(" + t + ")", x.spares(t), -1000000);
        }
        int[] noWhat = {-1, 2, 3, 256, Integer.MIN_VALUE, Integer.MAX_VALUE};
        for (int what : noWhat) {
            CHECK.due("promise 11, BAD: ends(0, " + what + ")", x.ends(0, what), -1);
            CHECK.due("promise 11, BAD: ends(1, " + what + ")", x.ends(1, what), -1);
        }
        ScopeTasks eight = CHECK.told("r;t0;t0;t0;t0;t0;t0;t0;", 8);
        CHECK.due("promise 11, the eighth TASK", eight.ends(7, 0), -9);
        CHECK.due("promise 11, BAD: a ninth TASK", eight.ends(8, 0), -1);
    }

    private static void endsInTheNextTick() {
        CHECK.due("promise 11, ENDED in the next TICK", forecast(new ScopeTasks(), 0), "1 0");
        ScopeTasks x = CHECK.told("rw1;", 1);
        x.ticks(1);
        CHECK.due("promise 11, from NOW on", forecast(x, 0), "2 0");
    }

    private static void endsWithinTwoHundredMore() {
        CHECK.due("promise 11, within 199 TICKS", forecast(endsAt(199), 0), "199 0");
        CHECK.due("promise 11, within 200 TICKS", forecast(endsAt(200), 0), "200 0");
        ScopeTasks x = endsAt(201);
        CHECK.due("promise 11, NONE: not within 200 TICKS", forecast(x, 0), "-9 -9");
        CHECK.due("promise 11, another TASK within 200 TICKS", forecast(x, 1), "163 0");
        x.ticks(1);
        CHECK.due("promise 11, within 200 TICKS more", forecast(x, 0), "201 0");
        x.undo();
        CHECK.due("promise 11, NONE behind undo()", forecast(x, 0), "-9 -9");
        ScopeTasks two = endsAt(202);
        two.ticks(1);
        CHECK.due("promise 11, NONE: not within 200 TICKS more", forecast(two, 0), "-9 -9");
        two.ticks(1);
        CHECK.due("promise 11, within 200 TICKS more, at 2", forecast(two, 0), "202 0");
        two.asks(0);
        CHECK.due("promise 11, ASKED", forecast(two, 0), "3 2");
    }

    private static void endsThatHadBeen() {
        ScopeTasks x = CHECK.told("rbbw9w9;g0;t0f1;t0w2;", 4);
        x.ticks(12);
        CHECK.due("promise 11, had it been: then", forecast(x, 1) + " / " + forecast(x, 2), "2 1 / 5 0");
        x.ticks(12);
        CHECK.due("promise 11, behind the ROOT's end", forecast(x, 0) + " / " + forecast(x, 1), "21 1 / 2 1");
        CHECK.due("promise 11, TICK", x.count(1), 21);
    }

    private static void endsOfOneThatIsNeverBegun() {
        ScopeTasks x = CHECK.told("rb;t0;t0;t1;", 4);
        CHECK.due("promise 11, NONE: it is never begun", forecast(x, 2) + " / " + forecast(x, 3), "-9 -9 / -9 -9");
        x.ticks(12);
        CHECK.due("promise 11, NONE behind the ROOT's end", forecast(x, 2) + " / " + forecast(x, 3), "-9 -9 / -9 -9");
    }

    private static void outOfEachKind() {
        ScopeTasks x = CHECK.told("rbbbbxw1;g0;t0;t0f1;t0w9;t0w9;d3 1;", 7);
        CHECK.due("promise 11, WELL", forecast(x, 1), "2 0");
        CHECK.due("promise 11, FAILED", forecast(x, 2), "3 1");
        CHECK.due("promise 11, LATE", forecast(x, 3), "5 3");
        CHECK.due("promise 11, CANCELLED", forecast(x, 4), "5 2");
        CHECK.due("promise 11, WELL with a LIST", forecast(x, 0), "7 1");
        ScopeTasks closing = CHECK.told("rf1;c0 5;", 2);
        closing.ticks(1);
        CHECK.due("promise 11, CLOSING", forecast(closing, 0), "5 1");
    }

    private static void wellByOneToSixty() {
        CHECK.due("promise 12, 1", new ScopeTasks().wellBy(), 1);
        CHECK.due("promise 12, 2", CHECK.told("rw1;", 1).wellBy(), 2);
        CHECK.due("promise 12, 59", CHECK.told("rb;t0b;t1b;t2b;t3w9w9w9w9w9w9;", 5).wellBy(), 59);
        CHECK.due("promise 12, 60", CHECK.told("rb;t0b;t1b;t2b;t3b;t4w9w9w9w9w9w9;", 6).wellBy(), 60);
        CHECK.due("promise 12, NONE: 61", CHECK.told("rb;t0b;t1b;t2b;t3b;t4b;t5w9w9w9w9w9w9;", 7).wellBy(), -9);
        CHECK.due("promise 12, NONE: 200", endsAt(200).wellBy(), -9);
    }

    private static void wellByIsTheLeast() {
        for (int n = 1; n <= 9; n++) {
            ScopeTasks x = CHECK.told("rw" + n + ";", 1);
            int least = x.wellBy();
            CHECK.due("promise 12, the least", least, n + 1);
            ScopeTasks by = CHECK.told("rw" + n + ";d0 " + least + ";", 2);
            CHECK.due("promise 12, by it the ROOT comes out WELL", by.ends(0, 1), 0);
            ScopeTasks below = CHECK.told("rw" + n + ";d0 " + (least - 1) + ";", 2);
            CHECK.due("promise 12, by one less it does not", below.ends(0, 1), 3);
        }
        CHECK.due("promise 12, a CLEAN-UP may be later", CHECK.told("rw1;c0 5;", 2).wellBy(), 2);
        // The ROOT comes out WELL by any DEADLINE if what takes long is not due: it CLOSES at 2.
        CHECK.due("promise 12, a child's CLEAN-UP may be later", CHECK.told("rb;t0;c1 5;", 3).wellBy(), 2);
        CHECK.due("promise 12, a child that is CANCELLED", CHECK.told("rbx;t0w9;", 2).wellBy(), 3);
    }

    private static void wellByNone() {
        CHECK.due("promise 12, NONE: it fails", CHECK.told("rf1;", 1).wellBy(), -9);
        CHECK.due("promise 12, NONE: a child fails", CHECK.told("rbw9;t0f1;", 2).wellBy(), -9);
        CHECK.due("promise 12, NONE: a child fails, gathered", CHECK.told("rbw9;t0f1;g0;", 3).wellBy(), -9);
        CHECK.due("promise 12, NONE: a child is LATE", CHECK.told("rbj;t0w2;d1 2;", 3).wellBy(), -9);
        CHECK.due("promise 12, a child in time", CHECK.told("rbj;t0w2;d1 3;", 3).wellBy(), 6);
    }

    private static void wellByFromTheBeginning() {
        ScopeTasks x = CHECK.told("rw5;d0 1;", 2);
        CHECK.due("promise 12, whatever DEADLINE was told", x.wellBy(), 6);
        x.ticks(1);
        CHECK.due("promise 12, at 1", x.wellBy(), 6);
        x.asks(0);
        CHECK.due("promise 12, ASKED", x.wellBy(), 6);
        x.ticks(1);
        CHECK.due("promise 12, ENDED", x.wellBy() + " " + x.task(0, 2), "6 3");
        ScopeTasks fails = CHECK.told("rw1f1;", 1);
        fails.asks(0);
        CHECK.due("promise 12, NONE though ASKED", fails.wellBy(), -9);
    }

    private static void sparesOfOneThatIsRunning() {
        ScopeTasks x = CHECK.told("rbw9;t0w1;t0;c1 2;c0 2;", 5);
        CHECK.due("promise 13, NO: UNBEGUN", x.spares(1), -1000000);
        x.ticks(3);
        CHECK.due("promise 13, NO: CLOSING", x.spares(1) + " " + x.task(1, 1), "-1000000 2");
        x.ticks(1);
        CHECK.due("promise 13, NO: ENDED", x.spares(1) + " " + x.task(1, 1), "-1000000 3");
        CHECK.due("promise 13, NO: never begun", x.spares(2), -1000000);
        x.ticks(7);
        CHECK.due("promise 13, NO: the ROOT is CLOSING", x.spares(0) + " " + x.task(0, 1), "-1000000 2");
        x.ticks(1);
        CHECK.due("promise 13, NO: the ROOT is ENDED", x.spares(0) + " " + x.task(0, 1), "-1000000 3");
        CHECK.due("promise 13, RUNNING", new ScopeTasks().spares(0), 0);
    }

    private static void sparesSoonerOrLater() {
        ScopeTasks sooner = CHECK.told("rbj;t0w5;", 2);
        sooner.ticks(1);
        CHECK.due("promise 13, sooner", sooner.spares(1), 5);
        CHECK.due("promise 13, sooner, the ROOT", sooner.spares(0), 7);
        ScopeTasks none = CHECK.told("rbw9;t0w5;", 2);
        none.ticks(1);
        CHECK.due("promise 13, 0: no sooner", none.spares(1), 0);
        ScopeTasks later = CHECK.told("rbw9;t0w2f1;", 2);
        later.ticks(1);
        CHECK.due("promise 13, below 0: later", later.spares(1), 4 - 11);
        ScopeTasks one = CHECK.told("rbw1;t0f1;", 2);
        one.ticks(1);
        CHECK.due("promise 13, -1 is an answer", one.spares(1), 2 - 3);
        ScopeTasks two = CHECK.told("rbw2;t0f1;", 2);
        two.ticks(1);
        CHECK.due("promise 13, -2 is an answer", two.spares(1), 2 - 4);
        ScopeTasks nine = CHECK.told("rbw9;t0f1;", 2);
        nine.ticks(1);
        CHECK.due("promise 13, -9 is an answer", nine.spares(1), 2 - 11);
    }

    private static void sparesWithoutItWithinTwoHundred() {
        CHECK.due("promise 13, without it within 200", endsAt(200).spares(0), 199);
        ScopeTasks x = endsAt(201);
        CHECK.due("promise 13, NO: without it not within 200", x.spares(0), -1000000);
        x.ticks(1);
        CHECK.due("promise 13, without it within 200 more", x.spares(0), 201 - 2);
        CHECK.due("promise 13, of a child", x.spares(1), 201 - 40);
    }

    /** With 1 being CANCELLED the ROOT does not fail: it waits for 2, until 161 and the work of the lowest TASK. */
    private static ScopeTasks waitsUntil(int tick) {
        String text = "rbbj;t0w9f1;t0" + LONG + "t2" + LONG + "t3" + LONG + "t4" + LONG + "t5w9w9w9w9w" + (tick - 197) + ";";
        ScopeTasks x = CHECK.told(text, 7);
        x.ticks(1);
        return x;
    }

    private static void sparesWithItWithinTwoHundred() {
        CHECK.due("promise 13, with it within 199", waitsUntil(200).spares(1), 12 - 200);
        CHECK.due("promise 13, with it within 200", waitsUntil(201).spares(1), 12 - 201);
        ScopeTasks x = waitsUntil(202);
        CHECK.due("promise 13, NO: with it not within 200", x.spares(1), -1000000);
        CHECK.due("promise 13, another TASK", x.spares(0), 12 - 2);
        x.ticks(1);
        CHECK.due("promise 13, with it within 200 more", x.spares(1), 12 - 202);
    }

    private static void sparesOfOneThatIsAsked() {
        ScopeTasks x = CHECK.told("rw9w9;s0 1;", 2);
        CHECK.due("promise 13, not ASKED", x.spares(0), 19 - 10);
        x.asks(0);
        CHECK.due("promise 13, ASKED already", x.spares(0), 0);
    }

    private static void nothingIsChanged() {
        String text = "rbbj;t0w3f1;t0w9;d0 30;s2 1;";
        ScopeTasks x = CHECK.told(text, 5);
        ScopeTasks same = CHECK.told(text, 5);
        for (ScopeTasks one : new ScopeTasks[] {x, same}) {
            one.ticks(3);
            one.keep(0);
            one.sees(1, 5, 1);
            Check.write(one, "rw1;");
        }
        for (int t = -1; t <= 3; t++) {
            x.ends(t, 0);
            x.ends(t, 1);
            x.spares(t);
            x.fits(t);
        }
        x.wellBy();
        CHECK.due("promises 11 to 13 and 16, nothing is changed", Check.everything(x), Check.everything(same));
    }
}
