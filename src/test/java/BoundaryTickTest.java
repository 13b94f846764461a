/** The edges of what a TICK does (the document's section 2), for promise 5: a test for each sentence. */
public final class BoundaryTickTest {
    private static final Check CHECK = new Check("BoundaryTickTest");

    public static void main(String[] args) {
        asThingsAreAtFirst();
        dueNoLaterThanOfItsParent();
        lateAboveDue();
        lateBeforeAllElse();
        lateOnlyIfRunning();
        begunAheadOfThisTick();
        askedBehindItsShield();
        askedWithoutAShieldInTime();
        worksSoManyTicks();
        beginsTheLowestIfThereIsOne();
        joinsWhatWasBegun();
        cancelsThoseThatAreRunning();
        failsAndIsNotBehind();
        cleansUpSoManyTicks();
        cleansUpBehindItsChildren();
        endsFromTheHighestToTheLowest();
        closesWellWithoutFailures();
        closesWellWithFailures();
        closesInTheTickItIsAsked();
        givesOnlyFailedOrLate();
        parentThatIsRunning();
        parentThatIsClosing();
        traceWithoutTheRootsBeginning();
        CHECK.end();
    }

    private static void due(String sentence, String got, String want) {
        CHECK.due("promise 5, " + sentence, got, want);
    }

    private static void due(String sentence, int got, int want) {
        CHECK.due("promise 5, " + sentence, got, want);
    }

    private static ScopeTasks at(int tick, String text, int items) {
        ScopeTasks x = CHECK.told(text, items);
        Check.passTicks(x, tick);
        return x;
    }

    /** How each TASK is and how it comes out. */
    private static String how(ScopeTasks x) {
        return Check.each(x, 1) + " / " + Check.each(x, 2);
    }

    private static void asThingsAreAtFirst() {
        ScopeTasks x = at(0, "rbw9;t0bw9;t1w9;", 3);
        due("the ROOT is RUNNING at first, others are UNBEGUN", how(x), "1 0 0 / -9 -9 -9");
        due("each LIST is empty at first", Check.each(x, 6), "0 0 0");
        due("none is ASKED at first", Check.each(x, 5), "0 0 0");
        due("nothing is behind at first", Check.each(x, 3), "0 0 0");
        due("no DEADLINE at first", Check.each(x, 4), "-9 -9 -9");
        Check.passTicks(x, 2);
        due("no DEADLINE at first, begun", Check.each(x, 4), "-9 -9 -9");
        x.asks(0);
        x.ticks(1);
        due("no SHIELD, no CLEAN-UP at first", how(x), "3 3 3 / 2 2 2");
        due("it does not GATHER at first", how(at(2, "rbw9;t0f1;", 2)), "3 3 / 1 1");
    }

    private static void dueNoLaterThanOfItsParent() {
        ScopeTasks x = at(3, "rbbb;t0w9;t0w9;t0w9;d0 10;d1 8;d2 8;d3 8;", 8);
        due("DUE below, at and beyond DUE of the PARENT", Check.each(x, 4), "10 9 10 10");
        due("DUE of the ROOT from TICK 0", Check.each(at(0, "r;d0 1;", 2), 4), "1");
        due("DUE of the ROOT, 60", Check.each(at(0, "r;d0 60;", 2), 4), "60");
        due("DUE of an UNBEGUN child: none", Check.each(at(0, "rb;t0w9;d0 9;d1 5;", 4), 4), "9 -9");
        due("DUE of a child without DEADLINE", Check.each(at(1, "rb;t0w9;d0 60;", 3), 4), "60 60");
        due("DUE of a child, its PARENT never being due", Check.each(at(1, "rb;t0w9;d1 60;", 3), 4), "-9 61");
        due("DUE of a grandchild", Check.each(at(2, "rb;t0bw9;t1w9;d0 9;", 4), 4), "9 9 9");
        due("DUE of a grandchild, of its PARENT alone", Check.each(at(2, "rb;t0bw9;t1w9;d1 4;d2 4;", 5), 4), "-9 5 5");
        due("DUE of one begun later", Check.each(at(9, "rw8b;t0w9;d1 2;", 3), 4), "-9 11");
        due("DUE of one begun when its PARENT is due", Check.each(at(2, "rw1b;t0w9;d0 2;", 3), 4), "2 2");
    }

    private static void lateAboveDue() {
        for (int deadline : new int[] {1, 2, 30, 53}) {
            ScopeTasks x = at(deadline, "rw9w9w9w9w9w9;d0 " + deadline + ";", 2);
            due("TICK at DUE " + deadline, how(x), "1 / -9");
            due("LIST at DUE " + deadline, x.task(0, 6), 0);
            x.ticks(1);
            due("TICK above DUE " + deadline, how(x), "3 / 3");
            due("LIST above DUE " + deadline, Check.list(x, 0), "10");
        }
        ScopeTasks last = at(60, "rb;t0b;t1b;t2b;t3b;t4b;t5w9w9w9w9w9w9;d0 60;", 8);
        due("TICK at DUE 60", last.task(6, 1), 1);
        last.ticks(1);
        due("TICK above DUE 60", last.task(6, 2), 3);
        due("a program over at DUE", how(at(3, "rw2;d0 2;", 2)), "3 / 3");
        due("a program over ahead of DUE", how(at(3, "rw2;d0 3;", 2)), "3 / 0");
    }

    private static void lateBeforeAllElse() {
        ScopeTasks asked = at(1, "rw9;d0 1;", 2);
        asked.asks(0);
        asked.ticks(1);
        due("LATE ahead of CANCELLED", how(asked), "3 / 3");
        due("LATE whatever SHIELD it has", how(at(2, "rw9;d0 1;s0 6;", 3)), "3 / 3");
        ScopeTasks fails = at(2, "rw1f5;d0 1;", 2);
        due("LATE ahead of its next OPERATION", how(fails) + " / " + Check.list(fails, 0), "3 / 3 / 10");
        ScopeTasks both = at(4, "rbw9;t0w9;d0 3;", 3);
        due("all that are due are LATE, by numbers", Check.trace(both), "1:1:0 4:0:1 4:1:1 4:1:2 4:0:2");
        due("a LATE child was ASKED by its PARENT", Check.each(both, 5), "0 1");
        due("each has code 10, a child's comes behind", Check.list(both, 0) + "/" + Check.list(both, 1), "10 10/10");
        due("a child alone is LATE", how(at(3, "rbw9;g0;t0w9;d1 1;", 4)), "1 3 / -9 3");
    }

    private static void lateOnlyIfRunning() {
        ScopeTasks closing = at(5, "r;c0 5;d0 1;", 3);
        due("CLOSING above DUE", how(closing) + " / " + closing.task(0, 6), "3 / 0 / 0");
        ScopeTasks unbegun = at(6, "rw9w9;t0;d1 1;", 3);
        due("UNBEGUN above DUE", how(unbegun) + " / " + unbegun.task(1, 6), "1 0 / -9 -9 / 0");
        ScopeTasks ended = at(6, "rbw9;t0;d1 2;", 3);
        due("ENDED above DUE", how(ended) + " / " + ended.task(1, 6), "1 3 / -9 0 / 0");
    }

    private static void begunAheadOfThisTick() {
        ScopeTasks x = at(1, "rb;t0f1;", 2);
        due("begun in this TICK", how(x), "1 1 / -9 -9");
        x.ticks(1);
        due("begun ahead of this TICK", x.task(1, 2), 1);
        due("the ROOT acts in TICK 1", at(1, "rw1w1;", 1).task(0, 3), 1);
        due("begun when due, LATE in the next TICK", how(at(3, "rw1bw9;t0w9;d0 2;", 3)), "3 3 / 3 3");
        ScopeTasks chain = at(3, "rb;t0b;t1b;t2b;", 4);
        due("each of a chain is begun a TICK later", Check.trace(chain).replaceAll(" ?\\d:\\d:[12]", ""), "1:1:0 2:2:0 3:3:0");
    }

    private static void askedBehindItsShield() {
        for (int shield = 0; shield <= 6; shield++) {
            ScopeTasks x = CHECK.told("rw1w1w1w1w1w1;s0 " + shield + ";", 2);
            x.asks(0);
            Check.passTicks(x, shield);
            due("one less than SHIELD " + shield + " behind it as TICK " + shield + " came", how(x), "1 / -9");
            x.ticks(1);
            due("SHIELD " + shield + " behind it", how(x), "3 / 2");
            due("OPERATIONS behind it, SHIELD " + shield, x.task(0, 3), shield);
        }
        ScopeTasks more = at(3, "rw1w1w1w1;s0 1;", 2);
        more.asks(0);
        more.ticks(1);
        due("more than SHIELD behind it", how(more), "3 / 2");
        ScopeTasks part = at(2, "rw1w3;s0 2;", 2);
        part.asks(0);
        part.ticks(2);
        due("an OPERATION that is not over is not behind it", how(part), "1 / -9");
        part.ticks(1);
        due("an OPERATION that is over is behind it", how(part), "3 / 2");
    }

    private static void askedWithoutAShieldInTime() {
        ScopeTasks over = CHECK.told("rw1w1;s0 2;", 2);
        over.asks(0);
        over.ticks(12);
        due("CANCELLED ahead of WELL", how(over) + " / " + over.count(1), "3 / 2 / 3");
        ScopeTasks above = CHECK.told("rw1w1;s0 3;", 2);
        above.asks(0);
        above.ticks(12);
        due("a SHIELD above its program", how(above) + " / " + above.count(1), "3 / 0 / 3");
        ScopeTasks fails = CHECK.told("rf3;s0 1;", 2);
        fails.asks(0);
        fails.ticks(1);
        due("FAILED within its SHIELD", how(fails), "3 / 1");
        ScopeTasks empty = CHECK.told("r;", 1);
        empty.asks(0);
        empty.ticks(1);
        due("CANCELLED without OPERATIONS", how(empty), "3 / 2");
    }

    private static void worksSoManyTicks() {
        for (int n = 1; n <= 9; n++) {
            ScopeTasks x = at(n - 1, "rw" + n + ";", 1);
            due("w " + n + " at " + (n - 1), x.task(0, 3) + " " + how(x), "0 1 / -9");
            x.ticks(1);
            due("w " + n + " at " + n, x.task(0, 3) + " " + how(x), "1 1 / -9");
            x.ticks(1);
            due("w " + n + " at " + (n + 1), x.task(0, 3) + " " + how(x), "1 3 / 0");
        }
        ScopeTasks rows = CHECK.told("rw3w2w1;", 1);
        StringBuilder behind = new StringBuilder();
        for (int tick = 1; tick <= 7; tick++) {
            rows.ticks(1);
            behind.append(rows.task(0, 3));
        }
        due("each w works its own TICKS", behind.toString(), "0011233");
    }

    private static void beginsTheLowestIfThereIsOne() {
        ScopeTasks none = at(1, "rb;", 1);
        due("b without children is behind it", none.task(0, 3) + " " + none.count(5), "1 0");
        ScopeTasks grandchild = at(2, "rbb;t0;t1;", 3);
        due("b of a child, not of a grandchild", grandchild.task(0, 3) + " " + grandchild.task(2, 1), "2 0");
        ScopeTasks more = at(3, "rbbb;t0w9;t0w9;", 3);
        due("b when none is UNBEGUN", more.task(0, 3) + " " + Check.each(more, 1), "3 1 1 1");
        ScopeTasks again = at(5, "rbw3bw9;t0;", 2);
        due("b does not begin one that is ENDED", Check.each(again, 1) + " " + again.count(5), "1 3 3");
        ScopeTasks lowest = at(1, "rb;t0w9;t0w9;t0w9;", 4);
        due("b begins the lowest, one alone", Check.each(lowest, 1), "1 1 0 0");
    }

    private static void joinsWhatWasBegun() {
        due("j without children", at(1, "rj;", 1).task(0, 3), 1);
        due("j with UNBEGUN children alone", at(1, "rj;t0;", 2).task(0, 3), 1);
        ScopeTasks x = CHECK.told("rbj;t0;c1 3;", 3);
        StringBuilder behind = new StringBuilder();
        for (int tick = 1; tick <= 5; tick++) {
            x.ticks(1);
            behind.append(x.task(0, 3)).append(x.task(1, 1)).append(' ');
        }
        due("j with a child that is RUNNING, CLOSING, ENDED", behind.toString(), "11 12 12 13 23 ");
        ScopeTasks two = CHECK.told("rbbj;t0;t0w3;", 3);
        Check.passTicks(two, 6);
        due("j with one ENDED of two", two.task(0, 3) + " " + Check.each(two, 1), "2 1 3 3");
        two.ticks(1);
        due("j with two ENDED of two", two.task(0, 3), 3);
    }

    private static void cancelsThoseThatAreRunning() {
        due("x without children is behind it", at(1, "rx;", 1).task(0, 3), 1);
        ScopeTasks unbegun = at(2, "rxbw1;t0w1;", 2);
        due("x does not ask one that is UNBEGUN", Check.each(unbegun, 5), "0 0");
        ScopeTasks closing = at(3, "rbw1xw9;t0;c1 5;", 3);
        due("x does not ask one that is CLOSING", Check.each(closing, 5) + " / " + how(closing), "0 0 / 1 2 / -9 0");
        ScopeTasks ended = at(3, "rbw1xw9;t0;", 2);
        due("x does not ask one that is ENDED", Check.each(ended, 5) + " / " + how(ended), "0 0 / 1 3 / -9 0");
        ScopeTasks below = at(4, "rbxw9;t0bw9;t1w9;s1 2;", 4);
        due("x does not ask grandchildren", Check.each(below, 5), "0 1 0");
        ScopeTasks all = at(3, "rbbxw9;t0w9;t0w9;s1 6;s2 6;", 5);
        due("x asks all its children", Check.each(all, 5) + " / " + Check.each(all, 1), "0 1 1 / 1 1 1");
    }

    private static void failsAndIsNotBehind() {
        for (int n = 1; n <= 9; n++) {
            ScopeTasks x = at(2, "rw1f" + n + "w1;", 1);
            due("f " + n + " is not behind it", x.task(0, 3) + " / " + how(x), "1 / 3 / 1");
            due("f " + n + " comes to its LIST", Check.list(x, 0), n + "");
        }
    }

    private static void cleansUpSoManyTicks() {
        for (int n = 0; n <= 5; n++) {
            ScopeTasks x = CHECK.told("rw1;c0 " + n + ";", 2);
            int last = Math.max(2, n + 1);
            Check.passTicks(x, last - 1);
            due("CLEAN-UP of " + n + " at " + (last - 1), x.task(0, 1), n <= 1 ? 1 : 2);
            x.ticks(1);
            due("CLEAN-UP of " + n + " is over at " + last, x.task(0, 1), 3);
        }
        ScopeTasks late = CHECK.told("rw9;c0 5;d0 2;", 3);
        late.ticks(12);
        due("CLEAN-UP of one that is LATE", how(late) + " / " + late.count(1), "3 / 3 / 7");
        ScopeTasks fails = CHECK.told("rf1;c0 5;", 2);
        fails.ticks(12);
        due("CLEAN-UP of one that FAILED", how(fails) + " / " + fails.count(1), "3 / 1 / 5");
    }

    private static void cleansUpBehindItsChildren() {
        ScopeTasks running = at(3, "rb;t0w2;c0 2;", 3);
        due("a child that is RUNNING puts it off", Check.each(running, 1), "2 1");
        running.ticks(1);
        due("it goes on as the last child is ENDED", Check.each(running, 1), "2 3");
        running.ticks(1);
        due("it is over a TICK later", Check.each(running, 1), "3 3");
        ScopeTasks closing = CHECK.told("rb;t0;c0 1;c1 4;", 4);
        closing.ticks(4);
        due("a child that is CLOSING puts it off", Check.each(closing, 1), "2 2");
        closing.ticks(1);
        due("both are over in one TICK", Check.each(closing, 1), "3 3");
        ScopeTasks unbegun = at(1, "r;t0;", 2);
        due("a child that is UNBEGUN does not put it off", Check.each(unbegun, 1), "3 0");
        ScopeTasks two = CHECK.told("rbb;t0;t0w1;c0 2;c1 5;", 5);
        two.ticks(12);
        due("it runs once, behind all its children", Check.trace(two), "1:1:0 2:2:0 2:1:1 3:0:1 4:2:1 4:2:2 6:1:2 7:0:2");
    }

    private static void endsFromTheHighestToTheLowest() {
        ScopeTasks x = at(5, "rbbbj;g0;t0w3f1;t0w2f2;t0w1f3;", 5);
        due("from the highest to the lowest", Check.trace(x).substring(18), "5:1:1 5:2:1 5:3:1 5:3:2 5:2:2 5:1:2");
        due("failures in the order of the ends", Check.list(x, 0), "3 2 1");
        ScopeTasks chain = at(3, "rbw9;t0bw9;t1f4;", 3);
        due("a whole chain in one TICK", Check.trace(chain), "1:1:0 2:2:0 3:2:1 3:2:2 3:1:1 3:1:2 3:0:1 3:0:2");
    }

    private static void closesWellWithoutFailures() {
        ScopeTasks x = at(2, "rb;t0w5;", 2);
        due("WELL, its LIST being empty: children go on", Check.each(x, 5) + " / " + how(x), "0 0 / 2 1 / 0 -9");
        x.ticks(12);
        due("WELL, its LIST being empty", how(x) + " / " + x.count(1), "3 3 / 0 0 / 7");
    }

    private static void closesWellWithFailures() {
        ScopeTasks x = at(5, "rbbw2;g0;t0f2;t0w9;s2 1;", 5);
        due("WELL, its LIST not being empty", Check.each(x, 5) + " / " + how(x), "0 0 1 / 2 3 1 / 1 1 -9");
        ScopeTasks one = CHECK.told("rbj;g0;t0f2;", 3);
        one.ticks(12);
        due("it is FAILED, and told the code", how(one) + " / " + Check.list(one, 0), "3 3 / 1 1 / 2");
    }

    private static void closesInTheTickItIsAsked() {
        ScopeTasks fails = at(2, "rbf1;t0w9;", 2);
        due("a child is ASKED as its PARENT FAILED, and CLOSES", Check.trace(fails), "1:1:0 2:0:1 2:1:1 2:1:2 2:0:2");
        ScopeTasks cancels = at(3, "rbw1xw9;t0bw9;t1w9;", 3);
        due("cancels flow down in one TICK", how(cancels), "1 3 3 / -9 2 2");
        ScopeTasks shield = at(4, "rbw1xw9;t0bw9;t1w9;s2 1;", 4);
        due("a SHIELD puts them off", how(shield) + " / " + Check.each(shield, 5), "1 2 1 / -9 2 -9 / 0 1 1");
        ScopeTasks behind = at(3, "rbbw9;t0w1f1;t0w9;", 3);
        due("ASKED in step 3, CLOSES a TICK later", Check.each(behind, 5) + " / " + how(behind), "0 0 1 / 2 3 1 / 1 1 -9");
        behind.ticks(1);
        due("ASKED in step 3, CLOSED", how(behind), "3 3 3 / 1 1 2");
    }

    private static void givesOnlyFailedOrLate() {
        ScopeTasks cancelled = CHECK.told("rbw2xw1;t0bw9;t1f3;g1;", 4);
        cancelled.ticks(12);
        due("CANCELLED with a LIST gives nothing", how(cancelled) + " / " + Check.each(cancelled, 6), "3 3 3 / 0 2 1 / 0 1 1");
        ScopeTasks late = CHECK.told("rbj;t0bw9;t1f3;g0;g1;d1 5;", 6);
        late.ticks(12);
        due("LATE with a LIST gives it", how(late) + " / " + Check.list(late, 0), "3 3 3 / 1 3 1 / 3 10");
        ScopeTasks well = CHECK.told("rbj;t0w1;", 2);
        well.ticks(12);
        due("WELL gives nothing", how(well) + " / " + Check.each(well, 6), "3 3 / 0 0 / 0 0");
        ScopeTasks failed = CHECK.told("rbbj;g0;t0f1;t0w1f2;", 4);
        failed.ticks(12);
        due("it comes behind what is there", Check.list(failed, 0), "1 2");
    }

    private static void parentThatIsRunning() {
        ScopeTasks stops = at(2, "rbw9;t0f1;", 2);
        due("RUNNING, not gathering: CLOSES", how(stops), "3 3 / 1 1");
        ScopeTasks goesOn = at(2, "rbw9;g0;t0f1;", 3);
        due("RUNNING, gathering: goes on", how(goesOn) + " / " + Check.list(goesOn, 0), "1 3 / -9 1 / 1");
        ScopeTasks cleans = at(2, "rbw9;t0f1;c0 2;", 3);
        due("it CLOSES, and its CLEAN-UP begins in this TICK", how(cleans), "2 3 / 1 1");
        cleans.ticks(1);
        due("its CLEAN-UP is over a TICK later", how(cleans), "3 3 / 1 1");
    }

    private static void parentThatIsClosing() {
        for (String gathers : new String[] {"", "g0;"}) {
            ScopeTasks well = at(4, "rbb;t0w2f4;t0w9;" + gathers, gathers.isEmpty() ? 3 : 4);
            due("CLOSING and WELL becomes FAILED", how(well) + " / " + Check.each(well, 5), "2 3 1 / 1 1 -9 / 0 0 1");
        }
        ScopeTasks failed = at(5, "rbbw9;t0w2f1;t0w2f2;s2 2;", 4);
        due("CLOSING and FAILED", how(failed) + " / " + Check.list(failed, 0), "3 3 3 / 1 1 1 / 1 2");
        ScopeTasks late = at(6, "rbw9;t0w9;d0 3;c1 3;", 4);
        due("CLOSING and LATE", how(late) + " / " + Check.list(late, 0), "3 3 / 3 3 / 10 10");
        ScopeTasks cancelled = at(2, "rbj;t0bw9;t1w1f5;s2 2;", 4);
        cancelled.asks(1);
        cancelled.ticks(2);
        due("CLOSING and CANCELLED", how(cancelled) + " / " + Check.each(cancelled, 6), "1 3 3 / -9 2 1 / 0 1 1");
        ScopeTasks asksNone = at(4, "rbbb;t0f1;t0w9;t0w9;s2 6;s3 6;", 6);
        due("CLOSING, it begins no more, and asks none that is UNBEGUN", Check.each(asksNone, 5), "0 0 1 0");
    }

    private static void traceWithoutTheRootsBeginning() {
        ScopeTasks x = at(0, "rb;t0;", 2);
        due("the ROOT's beginning does not count", x.count(5), 0);
        x.ticks(12);
        due("TRACE, in order", Check.trace(x), "1:1:0 2:0:1 2:1:1 2:1:2 2:0:2");
        ScopeTasks longest = CHECK.told("rbbbbbb;t0b;t1;t0;t0;t0;t0;t0;", 8);
        longest.ticks(12);
        due("the longest TRACE", longest.count(5), 23);
        due("the last of the longest TRACE", longest.trace(22, 1) + " " + longest.trace(22, 2) + " " + longest.trace(23, 0), "0 2 -9");
    }
}
