/** Promises 14 to 16: sees, forget, fits. */
public final class DeadlineTest {
    private static final Check CHECK = new Check("DeadlineTest");
    private static final int ALL = 0x7ffffffe;

    public static void main(String[] args) {
        seesAndForgets();
        fitsOfTheRoot();
        fitsOfAChild();
        fitsFromTheBeginning();
        CHECK.end();
    }

    private static void seesAndForgets() {
        ScopeTasks x = CHECK.told("rw9;t0;", 2);
        int[][] wrong = {{-1, 1, 0}, {2, 1, 0}, {0, 0, 0}, {0, 61, 0}, {0, -1, 0}, {0, 1, 2}, {0, 1, -1},
            {Integer.MAX_VALUE, 1, 0}, {0, Integer.MAX_VALUE, 0}, {0, 1, Integer.MIN_VALUE}};
        for (int[] w : wrong) {
            CHECK.due("sees(" + w[0] + ", " + w[1] + ", " + w[2] + ")", x.sees(w[0], w[1], w[2]), -1);
        }
        CHECK.due("forget() of nothing", x.forget(), 0);
        int[][] right = {{0, 1, 0}, {1, 60, 0}, {0, 60, 1}, {0, 60, 1}, {0, 60, 0}, {1, 1, 1}};
        for (int i = 0; i < right.length; i++) {
            CHECK.due("sees of the " + i + "-th", x.sees(right[i][0], right[i][1], right[i][2]), i + 1);
        }
        CHECK.due("sees of a seventh", x.sees(0, 1, 0), -3);
        CHECK.due("sees of a seventh that is BAD", x.sees(0, 0, 0), -1);
        CHECK.due("count(6)", x.count(6), 6);
        CHECK.due("count(8)", x.count(8), 0);
        CHECK.due("undo()", x.undo(), -2);
        CHECK.due("forget()", x.forget(), 6);
        CHECK.due("forget() again", x.forget(), 0);
        CHECK.due("count(6)", x.count(6), 0);
        CHECK.due("fits(0)", x.fits(0), ALL);
        CHECK.due("sees", x.sees(0, 1, 0), 1);
    }

    private static void fitsOfTheRoot() {
        ScopeTasks x = CHECK.told("rw5w5;", 1);
        CHECK.due("fits(-1)", x.fits(-1), -1);
        CHECK.due("fits(1)", x.fits(1), -1);
        CHECK.due("fits(0) of nothing SEEN", x.fits(0), ALL);
        x.sees(0, 6, 1);
        CHECK.due("fits(0): 1 .. 5", x.fits(0), 0x3e);
        x.sees(0, 3, 0);
        CHECK.due("fits(0): 3 .. 5", x.fits(0), 0x38);
        x.sees(0, 60, 1);
        CHECK.due("fits(0): 3 .. 5", x.fits(0), 0x38);
        x.sees(0, 60, 0);
        CHECK.due("fits(0): none", x.fits(0), 0);
        x.forget();
        x.sees(0, 11, 1);
        CHECK.due("fits(0): all", x.fits(0), ALL);
        x.sees(0, 10, 0);
        CHECK.due("fits(0): 10 .. 30", x.fits(0), ALL & -1024);
        ScopeTasks last = CHECK.told("rw9w9w9w9;", 1);
        last.sees(0, 30, 0);
        CHECK.due("fits(0): 30", last.fits(0), 1 << 30);
        last.forget();
        last.sees(0, 2, 1);
        CHECK.due("fits(0): 1", last.fits(0), 2);
    }

    private static void fitsOfAChild() {
        ScopeTasks x = CHECK.told("rbj;t0w9;t0;g0;", 4);
        x.sees(1, 5, 1);
        CHECK.due("fits(1): 1 .. 3", x.fits(1), 0xe);
        CHECK.due("fits(0): 1 .. 4", x.fits(0), 0x1e);
        CHECK.due("fits(2): none", x.fits(2), 0);
        x.forget();
        x.sees(0, 8, 0);
        CHECK.due("fits(1): 5 .. 30", x.fits(1), ALL & -32);
        CHECK.due("fits(0): 8 .. 30", x.fits(0), ALL & -256);
        x.sees(2, 60, 0);
        CHECK.due("fits(1): 5 .. 30", x.fits(1), ALL & -32);
        x.sees(2, 60, 1);
        CHECK.due("fits(1): none", x.fits(1), 0);
    }

    private static void fitsFromTheBeginning() {
        ScopeTasks x = CHECK.told("rw5w5;d0 2;", 2);
        x.sees(0, 6, 1);
        x.asks(0);
        CHECK.due("fits(0): 1 .. 5", x.fits(0), 0x3e);
        x.ticks(1);
        CHECK.due("fits(0): 1 .. 5", x.fits(0), 0x3e);
        CHECK.due("DUE", x.task(0, 4), 2);
        CHECK.due("count(1)", x.count(1), 1);
        x.undo();
        x.undo();
        CHECK.due("count(6)", x.count(6), 1);
        CHECK.due("ends(0, 0)", x.ends(0, 0), 3);
    }
}
