/** The edges that the document names for promises 14 to 16 (sees, forget, fits): a test for each sentence. */
public final class BoundaryDeadlineTest {
    private static final Check CHECK = new Check("BoundaryDeadlineTest");
    private static final int ALL = 0x7ffffffe;

    public static void main(String[] args) {
        noSuchThing();
        oneToSixtyTicks();
        endedOrNot();
        sixAtMost();
        forgets();
        fitsOfNothing();
        fitsOneToThirty();
        endedBehindSoManyTicks();
        endedBehindSixtyTicks();
        fitsOfEachTask();
        fitsAllThatWasSeen();
        fitsFromTheBeginning();
        goneWhenReadAnew();
        CHECK.end();
    }

    private static void noSuchThing() {
        ScopeTasks x = CHECK.told("rw9;t0;", 2);
        for (int t : new int[] {-1, 2, 7, 8, 256, Integer.MIN_VALUE, Integer.MAX_VALUE}) {
            CHECK.due("promise 14, BAD: sees(" + t + ", 1, 0)", x.sees(t, 1, 0), -1);
            CHECK.due("promise 16, BAD: fits(" + t + ")", x.fits(t), -1);
        }
        CHECK.due("promise 14, nothing is SEEN behind BAD", x.count(6), 0);
        CHECK.due("promise 14, the last TASK", x.sees(1, 1, 0), 1);
        CHECK.due("promise 16, the last TASK", x.fits(1), ALL);
        ScopeTasks eight = CHECK.told("r;t0;t0;t0;t0;t0;t0;t0;", 8);
        CHECK.due("promise 14, the eighth TASK", eight.sees(7, 60, 0), 1);
        CHECK.due("promise 14, BAD: a ninth TASK", eight.sees(8, 60, 0), -1);
        CHECK.due("promise 16, the eighth TASK", eight.fits(7), ALL);
        CHECK.due("promise 16, BAD: a ninth TASK", eight.fits(8), -1);
    }

    private static void oneToSixtyTicks() {
        for (int n : new int[] {0, 61, -1, 62, 99, 256, Integer.MIN_VALUE, Integer.MAX_VALUE}) {
            ScopeTasks x = CHECK.told("rw9;", 1);
            CHECK.due("promise 14, BAD: sees(0, " + n + ", 0)", x.sees(0, n, 0), -1);
            CHECK.due("promise 14, BAD: sees(0, " + n + ", 1)", x.sees(0, n, 1), -1);
            CHECK.due("promise 14, nothing is SEEN behind BAD", x.count(6), 0);
            CHECK.due("promise 16, all fit behind BAD", x.fits(0), ALL);
        }
        for (int n : new int[] {1, 2, 30, 31, 59, 60}) {
            ScopeTasks x = CHECK.told("rw9;", 1);
            CHECK.due("promise 14, sees(0, " + n + ", 0)", x.sees(0, n, 0), 1);
            CHECK.due("promise 14, sees(0, " + n + ", 1)", x.sees(0, n, 1), 2);
        }
    }

    private static void endedOrNot() {
        ScopeTasks x = CHECK.told("rw9;", 1);
        for (int ended : new int[] {-1, 2, 3, 256, Integer.MIN_VALUE, Integer.MAX_VALUE}) {
            CHECK.due("promise 14, BAD: sees(0, 1, " + ended + ")", x.sees(0, 1, ended), -1);
        }
        CHECK.due("promise 14, not ENDED", x.sees(0, 1, 0), 1);
        CHECK.due("promise 14, ENDED", x.sees(0, 60, 1), 2);
    }

    private static void sixAtMost() {
        ScopeTasks x = CHECK.told("rw9;", 1);
        for (int n = 1; n <= 6; n++) {
            CHECK.due("promise 14, how much is SEEN", x.sees(0, 1, 0), n);
        }
        CHECK.due("promise 14, FULL", x.sees(0, 60, 0), -3);
        CHECK.due("promise 14, FULL again", x.sees(0, 1, 1), -3);
        CHECK.due("promise 14, BAD ahead of FULL: TASK", x.sees(1, 1, 0), -1);
        CHECK.due("promise 14, BAD ahead of FULL: n", x.sees(0, 61, 0), -1);
        CHECK.due("promise 14, BAD ahead of FULL: ended", x.sees(0, 1, 2), -1);
        CHECK.due("promise 14, six SEEN behind FULL", x.count(6), 6);
        CHECK.due("promise 14, what was refused does not count", x.fits(0), ALL);
        x.forget();
        for (int n = 1; n <= 5; n++) {
            x.sees(0, 60, 1);
        }
        CHECK.due("promise 14, the sixth", x.sees(0, 9, 0), 6);
        CHECK.due("promise 16, the sixth counts", x.fits(0), ALL & -512);
    }

    private static void forgets() {
        ScopeTasks x = CHECK.told("rw9;", 1);
        CHECK.due("promise 15, nothing was SEEN", x.forget(), 0);
        x.sees(0, 60, 0);
        CHECK.due("promise 16, none fits", x.fits(0), 0);
        CHECK.due("promise 15, one was SEEN", x.forget(), 1);
        CHECK.due("promise 15, nothing is SEEN", x.forget() + " " + x.count(6), "0 0");
        CHECK.due("promise 16, all fit behind forget()", x.fits(0), ALL);
        for (int n = 1; n <= 7; n++) {
            x.sees(0, 60, 0);
        }
        CHECK.due("promise 15, six were SEEN", x.forget(), 6);
        CHECK.due("promise 14, the first behind forget()", x.sees(0, 60, 1), 1);
        CHECK.due("promise 16, what was forgotten does not count", x.fits(0), ALL);
    }

    private static void fitsOfNothing() {
        ScopeTasks x = new ScopeTasks();
        CHECK.due("promise 16, nothing SEEN: bits 1 to 30", x.fits(0), ALL);
        x.sees(0, 1, 1);
        CHECK.due("promise 16, all of them", x.fits(0), ALL);
        x.sees(0, 1, 0);
        CHECK.due("promise 16, none of them", x.fits(0), 0);
    }

    private static void fitsOneToThirty() {
        for (int deadline = 1; deadline <= 30; deadline++) {
            ScopeTasks x = CHECK.told("rw9w9w9w9;", 1);
            x.sees(0, deadline, 0);
            CHECK.due("promise 16, " + deadline + " to 30", x.fits(0), ALL & -(1 << deadline));
            x.sees(0, deadline + 1, 1);
            CHECK.due("promise 16, bit " + deadline + " alone", x.fits(0), 1 << deadline);
        }
        ScopeTasks beyond = CHECK.told("rw9w9w9w9;", 1);
        beyond.sees(0, 31, 0);
        CHECK.due("promise 16, no bit 31", beyond.fits(0), 0);
        beyond.forget();
        beyond.sees(0, 1, 1);
        CHECK.due("promise 16, no bit 0", beyond.fits(0), 0);
    }

    private static void endedBehindSoManyTicks() {
        ScopeTasks x = CHECK.told("rw3;t0;c0 2;", 3);
        for (int n = 1; n <= 60; n++) {
            x.forget();
            x.sees(0, n, 1);
            CHECK.due("promise 16, ENDED at 5, SEEN behind " + n, x.fits(1), n >= 5 ? ALL : 0);
            x.forget();
            x.sees(0, n, 0);
            CHECK.due("promise 16, ENDED at 5, not SEEN behind " + n, x.fits(1), n >= 5 ? 0 : ALL);
        }
    }

    private static void endedBehindSixtyTicks() {
        ScopeTasks sixty = CHECK.told("rb;t0w9w9w9w9w9w9;t0;c1 5;", 4);
        CHECK.due("promise 11, ENDED at 60", sixty.ends(0, 0), 60);
        sixty.sees(0, 60, 1);
        CHECK.due("promise 16, ENDED at 60", sixty.fits(2), ALL);
        sixty.sees(1, 59, 0);
        CHECK.due("promise 16, not ENDED at 59", sixty.fits(2), ALL);
        ScopeTasks later = CHECK.told("rw1b;t0w9w9w9w9w9w9;t0;c1 5;", 4);
        CHECK.due("promise 11, ENDED at 61", later.ends(0, 0), 61);
        later.sees(0, 60, 0);
        later.sees(1, 60, 0);
        CHECK.due("promise 16, not ENDED at 60", later.fits(2), ALL);
        later.sees(1, 60, 1);
        CHECK.due("promise 16, none", later.fits(2), 0);
    }

    private static void fitsOfEachTask() {
        ScopeTasks x = CHECK.told("rbj;t0w9;t0;g0;", 4);
        x.sees(1, 5, 1);
        CHECK.due("promise 16, of the TASK that was SEEN", x.fits(1), 0xe);
        CHECK.due("promise 16, of its PARENT", x.fits(0), 0x1e);
        CHECK.due("promise 16, of another TASK", x.fits(2), 0);
        x.forget();
        x.sees(2, 60, 0);
        CHECK.due("promise 16, of one that is never begun", x.fits(0) & x.fits(1) & x.fits(2), ALL);
        x.sees(2, 60, 1);
        CHECK.due("promise 16, one that is never begun is not ENDED", x.fits(0) | x.fits(1) | x.fits(2), 0);
        ScopeTasks told = CHECK.told("rbj;t0w9;d0 5;d1 3;g0;", 5);
        told.sees(1, 5, 1);
        CHECK.due("promise 16, the other DEADLINES as told", told.fits(1) + " " + told.fits(0), 0xe + " " + ALL);
        told.forget();
        told.sees(1, 10, 1);
        CHECK.due("promise 16, no later than DUE of its PARENT", told.fits(1), ALL);
    }

    private static void fitsAllThatWasSeen() {
        ScopeTasks x = CHECK.told("rw9w9w9w9;t0;", 2);
        x.sees(0, 20, 1);
        CHECK.due("promise 16, one of them", x.fits(0), (1 << 20) - 2);
        x.sees(0, 10, 0);
        CHECK.due("promise 16, two of them", x.fits(0), (1 << 20) - (1 << 10));
        x.sees(0, 15, 0);
        CHECK.due("promise 16, three of them", x.fits(0), (1 << 20) - (1 << 15));
        x.sees(1, 60, 0);
        x.sees(0, 18, 1);
        CHECK.due("promise 16, five of them", x.fits(0), (1 << 18) - (1 << 15));
        x.sees(0, 15, 1);
        CHECK.due("promise 16, six of them, two against each other", x.fits(0), 0);
    }

    private static void fitsFromTheBeginning() {
        ScopeTasks x = CHECK.told("rw9;d0 2;", 2);
        x.sees(0, 6, 1);
        CHECK.due("promise 16, whatever DEADLINE was told", x.fits(0), 0x3e);
        x.asks(0);
        CHECK.due("promise 16, though ASKED", x.fits(0), 0x3e);
        x.ticks(1);
        CHECK.due("promise 16, behind the end", x.fits(0), 0x3e);
        x.undo();
        x.undo();
        CHECK.due("promise 14, SEEN is not UNDONE", x.count(6) + " " + x.fits(0), "1 62");
        CHECK.due("promise 16, nothing is changed", x.task(0, 4) + " " + x.ends(0, 0) + " " + x.count(1), "2 3 0");
    }

    private static void goneWhenReadAnew() {
        ScopeTasks x = CHECK.told("rw9;", 1);
        for (int n = 1; n <= 6; n++) {
            x.sees(0, 60, 0);
        }
        Check.write(x, "y");
        x.tree();
        CHECK.due("promise 4, SEEN behind a FAULT", x.count(6) + " " + x.fits(0), "6 0");
        x.clear();
        Check.write(x, "rw9;");
        x.tree();
        CHECK.due("promise 4, nothing is SEEN, read anew", x.count(6) + " " + x.forget() + " " + x.fits(0), "0 0 " + ALL);
        CHECK.due("promise 14, the first, read anew", x.sees(0, 60, 0), 1);
    }
}
