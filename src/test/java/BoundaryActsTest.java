/** The edges that the document names for promises 5 to 7 (ticks, asks, undo): a test for each sentence. */
public final class BoundaryActsTest {
    private static final Check CHECK = new Check("BoundaryActsTest");
    private static final String CHAIN = "bjw9w9w9w9;";

    public static void main(String[] args) {
        oneToTwelveTicks();
        stopsWhenTheRootIsEnded();
        endedRootRefusesTicks();
        aLongRunOfTicks();
        eachTickIsAnAct();
        asksATask();
        asksOnlyOneThatIsRunning();
        asksOnlyOnce();
        asksTellsWhatIsBehind();
        undoesNothingAtFirst();
        undoesTwelveAtMost();
        undoesRoundAndRound();
        undoesWhatWasNotRefused();
        undoesAllOfAnAct();
        undoesTheEnd();
        CHECK.end();
    }

    private static void oneToTwelveTicks() {
        for (int n : new int[] {0, 13, -1, 14, 256, Integer.MIN_VALUE, Integer.MAX_VALUE, Integer.MAX_VALUE - 11}) {
            ScopeTasks x = CHECK.told("rw9w9;", 1);
            CHECK.due("promise 5, ticks(" + n + ")", x.ticks(n), -1);
            CHECK.due("promise 5, TICK behind ticks(" + n + ")", x.count(1), 0);
            CHECK.due("promise 5, acts behind ticks(" + n + ")", x.count(8), 0);
        }
        for (int n = 1; n <= 12; n++) {
            ScopeTasks x = CHECK.told("rw9w9;", 1);
            CHECK.due("promise 5, ticks(" + n + ")", x.ticks(n), n);
            CHECK.due("promise 5, TICK behind ticks(" + n + ")", x.count(1), n);
            CHECK.due("promise 5, OPERATIONS behind ticks(" + n + ")", x.task(0, 3), n / 9);
        }
    }

    private static void stopsWhenTheRootIsEnded() {
        for (int n = 1; n <= 12; n++) {
            ScopeTasks x = CHECK.told("rw5;", 1);
            CHECK.due("promise 5, it stops: ticks(" + n + ")", x.ticks(n), Math.min(n, 6));
            CHECK.due("promise 5, it stops: acts", x.count(8), Math.min(n, 6));
            CHECK.due("promise 5, it stops: the ROOT", x.task(0, 1), n >= 6 ? 3 : 1);
        }
        ScopeTasks closing = CHECK.told("rw1;c0 5;", 2);
        CHECK.due("promise 5, CLOSING does not stop it", closing.ticks(5), 5);
        CHECK.due("promise 5, ENDED stops it", closing.ticks(12), 6);
        ScopeTasks child = CHECK.told("rbw4;t0;", 2);
        CHECK.due("promise 5, a child's end does not stop it", child.ticks(12), 6);
    }

    private static void endedRootRefusesTicks() {
        ScopeTasks x = CHECK.told("rb;t0;t0;", 3);
        x.ticks(2);
        CHECK.due("promise 5, the ROOT is ENDED", x.task(0, 1), 3);
        for (int n = 1; n <= 12; n++) {
            CHECK.due("promise 5, STATE: ticks(" + n + ")", x.ticks(n), -2);
        }
        CHECK.due("promise 5, BAD ahead of STATE, 0", x.ticks(0), -1);
        CHECK.due("promise 5, BAD ahead of STATE, 13", x.ticks(13), -1);
        CHECK.due("promise 5, TICK behind STATE", x.count(1), 2);
        CHECK.due("promise 5, acts behind STATE", x.count(8), 2);
        CHECK.due("promise 5, TRACE behind STATE", x.count(5), 5);
    }

    /** A chain of eight TASKS whose ROOT is ENDED at 328. */
    private static void aLongRunOfTicks() {
        StringBuilder text = new StringBuilder("r").append(CHAIN);
        for (int parent = 0; parent < 6; parent++) {
            text.append('t').append(parent).append(CHAIN);
        }
        ScopeTasks x = CHECK.told(text.append("t6w9w9w9w9w9w9;").toString(), 8);
        for (int tick = 12; tick <= 324; tick += 12) {
            CHECK.due("promise 5, ticks(12) of a long run", x.ticks(12), tick);
        }
        CHECK.due("promise 5, ticks(12) stops", x.ticks(12), 328);
        CHECK.due("promise 5, ticks(1) behind the end", x.ticks(1), -2);
        CHECK.due("promise 5, all come out WELL", Check.each(x, 2), "0 0 0 0 0 0 0 0");
        CHECK.due("promise 10, TRACE of a long run", x.trace(21, 0) + " " + x.trace(22, 0), "328 328");
    }

    private static void eachTickIsAnAct() {
        ScopeTasks x = CHECK.told("rw9w9w9;", 1);
        x.ticks(3);
        CHECK.due("promise 5, an act each", x.count(8), 3);
        x.ticks(8);
        CHECK.due("promise 5, an act each, eleven", x.count(8), 11);
        x.ticks(2);
        CHECK.due("promise 5, an act each, twelve are known", x.count(8), 12);
        CHECK.due("promise 7, the latest act", x.undo(), 11);
        CHECK.due("promise 7, one TICK is undone", x.count(1), 12);
    }

    private static void asksATask() {
        ScopeTasks x = CHECK.told("rbw9;t0w9;", 2);
        x.ticks(1);
        for (int t : new int[] {-1, 2, 7, 8, 256, Integer.MIN_VALUE, Integer.MAX_VALUE}) {
            CHECK.due("promise 6, BAD: asks(" + t + ")", x.asks(t), -1);
        }
        CHECK.due("promise 6, acts behind BAD", x.count(8), 1);
        CHECK.due("promise 6, none is ASKED behind BAD", Check.each(x, 5), "0 0");
        CHECK.due("promise 6, asks of the last TASK", x.asks(1), 0);
        CHECK.due("promise 6, that one alone is ASKED", Check.each(x, 5), "0 1");
        CHECK.due("promise 6, asks of the ROOT", x.asks(0), 1);
        CHECK.due("promise 6, asking changes nothing else", Check.each(x, 1) + " " + x.count(1), "1 1 1");
        StringBuilder text = new StringBuilder("rbw9;");
        for (int parent = 0; parent < 6; parent++) {
            text.append('t').append(parent).append("bw9;");
        }
        ScopeTasks eight = CHECK.told(text.append("t6w9;").toString(), 8);
        CHECK.due("promise 6, the eighth TASK is UNBEGUN", eight.asks(7), -2);
        eight.ticks(7);
        CHECK.due("promise 6, the eighth TASK", eight.asks(7), 0);
        CHECK.due("promise 6, no ninth TASK", eight.asks(8), -1);
    }

    private static void asksOnlyOneThatIsRunning() {
        ScopeTasks x = CHECK.told("rbbw1;t0;t0w1;t0;c1 3;", 5);
        CHECK.due("promise 6, STATE: UNBEGUN", x.asks(1), -2);
        x.ticks(2);
        CHECK.due("promise 6, STATE: CLOSING", x.asks(1) + " " + x.task(1, 1), "-2 2");
        x.ticks(2);
        CHECK.due("promise 6, STATE: ENDED", x.asks(1) + " " + x.task(1, 1), "-2 3");
        CHECK.due("promise 6, STATE: UNBEGUN still", x.asks(3), -2);
        CHECK.due("promise 6, STATE: the ROOT is ENDED", x.asks(0) + " " + x.task(0, 1), "-2 3");
        CHECK.due("promise 6, acts behind STATE", x.count(8), 4);
        CHECK.due("promise 6, none is ASKED behind STATE", Check.each(x, 5), "0 0 0 0");
    }

    private static void asksOnlyOnce() {
        ScopeTasks x = CHECK.told("rbw1xw9;t0w9;s1 6;s0 6;", 4);
        CHECK.due("promise 6, asks", x.asks(0), 0);
        CHECK.due("promise 6, STATE: it is ASKED", x.asks(0), -2);
        CHECK.due("promise 6, acts", x.count(8), 1);
        x.ticks(3);
        CHECK.due("promise 6, STATE: ASKED by x", x.asks(1) + " " + x.task(1, 1), "-2 1");
        CHECK.due("promise 6, STATE: ASKED still", x.asks(0), -2);
        x.undo();
        CHECK.due("promise 6, asks of one that is ASKED no more", x.asks(1), 0);
        ScopeTasks failed = CHECK.told("rbf1;t0w9;s1 6;", 3);
        failed.ticks(2);
        CHECK.due("promise 6, STATE: ASKED by a PARENT that FAILED", failed.asks(1) + " " + failed.task(1, 1), "-2 1");
    }

    private static void asksTellsWhatIsBehind() {
        for (int behind = 0; behind <= 6; behind++) {
            ScopeTasks x = CHECK.told("rw1w1w1w1w1w1;", 1);
            Check.passTicks(x, behind);
            CHECK.due("promise 6, OPERATIONS behind it", x.asks(0), behind);
        }
        ScopeTasks part = CHECK.told("rw1w5;", 1);
        part.ticks(3);
        CHECK.due("promise 6, one that is not over does not count", part.asks(0), 1);
    }

    private static void undoesNothingAtFirst() {
        ScopeTasks x = new ScopeTasks();
        CHECK.due("promise 7, STATE of a new object", x.undo(), -2);
        x.asks(0);
        CHECK.due("promise 7, one act", x.undo(), 0);
        CHECK.due("promise 7, STATE behind the last", x.undo(), -2);
        CHECK.due("promise 7, STATE again", x.undo(), -2);
        CHECK.due("promise 7, count(8)", x.count(8), 0);
        x.ticks(1);
        x.tree();
        CHECK.due("promise 7, STATE behind tree()", x.undo(), -2);
        x.ticks(1);
        x.keep(0);
        x.back(0);
        CHECK.due("promise 7, STATE behind back()", x.undo(), -2);
    }

    private static void undoesTwelveAtMost() {
        for (int acts = 1; acts <= 15; acts++) {
            ScopeTasks x = CHECK.told("rw9w9;", 1);
            Check.passTicks(x, acts);
            int known = Math.min(acts, 12);
            CHECK.due("promise 19, acts that may be UNDONE of " + acts, x.count(8), known);
            for (int more = known - 1; more >= 0; more--) {
                CHECK.due("promise 7, undo() of " + acts, x.undo(), more);
                CHECK.due("promise 7, TICK behind undo()", x.count(1), acts - known + more);
            }
            CHECK.due("promise 7, STATE: older ones are lost, of " + acts, x.undo(), -2);
            CHECK.due("promise 7, TICK behind STATE", x.count(1), acts - known);
        }
        ScopeTasks asked = CHECK.told("rw9w9;", 1);
        asked.asks(0);
        asked.undo();
        Check.passTicks(asked, 11);
        asked.asks(0);
        CHECK.due("promise 7, asks() is the twelfth", asked.count(8), 12);
        CHECK.due("promise 7, undo() of the twelfth", asked.undo() + " " + asked.task(0, 5) + " " + asked.count(1), "11 0 11");
        asked.ticks(2);
        CHECK.due("promise 7, twelve are known again", asked.count(8), 12);
    }

    private static void undoesRoundAndRound() {
        ScopeTasks x = CHECK.told("rw9w9w9w9w9w9;", 1);
        int tick = 0;
        int known = 0;
        int[] forth = {5, 12, 7, 1, 12, 9};
        int[] back = {3, 12, 2, 1, 5, 12};
        for (int i = 0; i < forth.length; i++) {
            tick += forth[i];
            known = Math.min(12, known + forth[i]);
            CHECK.due("promise 5, ticks(" + forth[i] + ")", x.ticks(forth[i]), tick);
            for (int n = 0; n < back[i]; n++) {
                tick--;
                known--;
                CHECK.due("promise 7, undo() round and round", x.undo(), known);
                CHECK.due("promise 7, TICK round and round", x.count(1), tick);
                CHECK.due("promise 7, OPERATIONS round and round", x.task(0, 3), tick / 9);
            }
        }
    }

    private static void undoesWhatWasNotRefused() {
        ScopeTasks x = CHECK.told("rw2;t0;", 2);
        x.ticks(1);
        x.ticks(0);
        x.ticks(13);
        x.asks(1);
        x.asks(2);
        x.asks(0);
        x.asks(0);
        CHECK.due("promise 7, acts that were not refused", x.count(8), 2);
        x.type('r');
        x.type(' ');
        x.clear();
        x.sees(0, 1, 1);
        x.forget();
        x.fits(0);
        x.wellBy();
        x.spares(0);
        x.keep(0);
        x.ends(0, 0);
        CHECK.due("promise 7, only ticks() and asks() are acts", x.count(8), 2);
        CHECK.due("promise 7, undo() of asks()", x.undo() + " " + x.task(0, 5) + " " + x.count(1), "1 0 1");
        CHECK.due("promise 7, undo() of ticks()", x.undo() + " " + x.count(1), "0 0");
        ScopeTasks ended = new ScopeTasks();
        ended.ticks(1);
        ended.ticks(1);
        ended.asks(0);
        CHECK.due("promise 7, refused behind the end", ended.count(8), 1);
    }

    private static void undoesAllOfAnAct() {
        ScopeTasks x = CHECK.told("rbbw3j;t0w1f7;t0w9w9;g0;d0 30;d2 3;c1 2;s2 1;", 8);
        String[] looks = new String[8];
        for (int tick = 0; tick < looks.length; tick++) {
            looks[tick] = state(x);
            x.ticks(1);
        }
        for (int tick = looks.length - 1; tick >= 0; tick--) {
            x.undo();
            CHECK.due("promise 7, all as it was at " + tick, state(x), looks[tick]);
        }
    }

    /** What an act may change, in few calls. */
    private static String state(ScopeTasks x) {
        StringBuilder all = new StringBuilder().append(x.count(1)).append(' ').append(x.count(5));
        for (int t = 0; t < 3; t++) {
            for (int what = 1; what <= 6; what++) {
                all.append(' ').append(x.task(t, what));
            }
        }
        return all.append(' ').append(x.failure(0, 0)).append(' ').append(x.ends(0, 0)).toString();
    }

    private static void undoesTheEnd() {
        ScopeTasks x = CHECK.told("rw2;", 1);
        x.ticks(12);
        CHECK.due("promise 7, undo() of the end", x.undo(), 2);
        CHECK.due("promise 7, the ROOT is RUNNING again", x.task(0, 1) + " " + x.task(0, 2) + " " + x.count(5), "1 -9 0");
        CHECK.due("promise 6, it can be ASKED", x.asks(0), 1);
        CHECK.due("promise 5, ticks() behind undo()", x.ticks(12), 3);
        CHECK.due("promise 5, it comes out another way", x.task(0, 2), 2);
    }
}
