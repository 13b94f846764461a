/** Promises 2 to 4: type, clear, tree. */
public final class TextTest {
    private static final Check CHECK = new Check("TextTest");

    public static void main(String[] args) {
        letters();
        whatIsTold();
        faultsOfItems();
        faultsOfOperations();
        faultsOfSettings();
        faultsOfLetters();
        endsTooEarly();
        nothingChangesAtFault();
        allAnew();
        CHECK.end();
    }

    private static void letters() {
        ScopeTasks x = new ScopeTasks();
        CHECK.due("type(-1)", x.type(-1), -1);
        CHECK.due("type(256)", x.type(256), -1);
        CHECK.due("type(least)", x.type(Integer.MIN_VALUE), -1);
        CHECK.due("type(0)", x.type(0), 1);
        CHECK.due("type(255)", x.type(255), 2);
        for (int n = 3; n <= 120; n++) {
            CHECK.due("type(32)", x.type(32), n);
        }
        CHECK.due("type(32) of 121", x.type(32), -3);
        CHECK.due("type(256) of 121", x.type(256), -1);
        CHECK.due("count(7)", x.count(7), 120);
        CHECK.due("clear()", x.clear(), 120);
        CHECK.due("clear() again", x.clear(), 0);
        CHECK.due("count(7)", x.count(7), 0);
        CHECK.due("type(114)", x.type(114), 1);
    }

    private static void whatIsTold() {
        ScopeTasks x = CHECK.told(" r b  j ;t0 w 9f 1;t 1;d2 60;s 2 6 ;c2 5;g2;", 7);
        CHECK.due("parents", Check.each(x, 0), "-9 0 1");
        CHECK.due("count(7)", x.count(7), 0);
        CHECK.due("count(0)", x.count(0), 3);
        CHECK.told("   ", 0);
        CHECK.told("", 0);
        CHECK.told("r;", 1);
        CHECK.told("rw1w2w3w4w5w6;", 1);
        CHECK.told("r;t0;t1;t2;t3;t4;t5;t6;g7;", 9);
        CHECK.told("r;s0 0;c0 0;d0 1;s0 6;c0 5;d0 60;g0;", 8);
        ScopeTasks full = CHECK.told("rw9w9w9w9w9w9;" + "t0w9w9w9w9w9w9;".repeat(7) + " ", 8);
        CHECK.due("count(0)", full.count(0), 8);
        ScopeTasks last = CHECK.told("rw9;d0 9;d0 2;c0 5;c0 0;s0 5;s0 0;", 7);
        CHECK.due("DUE as told last", last.task(0, 4), 2);
        CHECK.due("ENDS as told last", last.ends(0, 0), 3);
        last.asks(0);
        CHECK.due("ENDS as told last, ASKED", last.ends(0, 0), 1);
    }

    private static void fault(String text, int place) {
        ScopeTasks x = new ScopeTasks();
        Check.write(x, text);
        CHECK.due("tree() of \"" + text + "\"", x.tree(), -10 - place);
        CHECK.due("count(7) behind the fault of \"" + text + "\"", x.count(7), text.length());
    }

    private static void faultsOfItems() {
        fault("t0;", 0);
        fault("d0 1;r;", 0);
        fault(" g0;", 1);
        fault(";", 0);
        fault("r;;", 2);
        fault("r;r;", 2);
        fault("r; rb;", 3);
        fault("r;b;", 2);
        fault("r;5;", 2);
        fault("5", 0);
        fault("rr;", 1);
        fault("r t0;", 2);
        fault("rd0 1;", 1);
        fault("r;t0;t0;t0;t0;t0;t0;t0;t0;", 23);
        fault("r;t0;t0;t0;t0;t0;t0;t0;t", 23);
        fault("r;t0;t0;t0;t0;t0;t0;t0; t 99", 24);
        fault("r;t;", 3);
        fault("r;tb;", 3);
        fault("r;t1;", 3);
        fault("r;t0;t 2;", 7);
        fault("r;t0 0;", 5);
        fault("r;t00;", 3);
    }

    private static void faultsOfOperations() {
        fault("rbbbbbbb;", 7);
        fault("rw1w1w1w1w1w1 w0;", 14);
        fault("rbbbbbb5;", 7);
        fault("rw;", 2);
        fault("rw0;", 2);
        fault("rw10;", 2);
        fault("rww;", 2);
        fault("rw1 2;", 4);
        fault("rf0;", 2);
        fault("rf 10;", 3);
        fault("rfb;", 2);
        fault("rb1;", 2);
        fault("rj1;", 2);
        fault("rx1;", 2);
        fault("r1;", 1);
        fault("r;t0g0;", 4);
    }

    private static void faultsOfSettings() {
        fault("r;d0 0;", 5);
        fault("r;d0 61;", 5);
        fault("r;d0 99;", 5);
        fault("r;d1 5;", 3);
        fault("r;d0;", 4);
        fault("r;d;", 3);
        fault("r;d0 1 1;", 7);
        fault("r;d0 1b;", 6);
        fault("r;d0 1r", 6);
        fault("r;s0 7;", 5);
        fault("r;s1 0;", 3);
        fault("r;c0 6;", 5);
        fault("r;c1 0;", 3);
        fault("r;g1;", 3);
        fault("r;g0 0;", 5);
        fault("r;g0;g0;", 6);
        fault("r;g;", 3);
        fault("r;d1 5;t0;", 3);
    }

    private static void faultsOfLetters() {
        fault("y", 0);
        fault(" R;", 1);
        fault("r:", 1);
        fault("r\t;", 1);
        fault("r;" + (char) 0, 2);
        fault("r;" + (char) 255, 2);
        fault("rw-1;", 2);
        fault("rw 100;", 3);
        fault("rw 01;", 3);
        fault("rw 00;", 3);
        fault("rw 4294967297;", 3);
        fault("rw" + "1".repeat(118), 2);
        fault("t0;y", 0);
        fault("r;c0 05;", 5);
        fault("r;c00 5;", 3);
        fault("100;", 0);
    }

    private static void endsTooEarly() {
        fault("r", 1);
        fault("r  ", 3);
        fault("rw", 2);
        fault("rbbbbbb", 7);
        fault("r;t", 3);
        fault("r;t0", 4);
        fault("r;d", 3);
        fault("r;d0", 4);
        fault("r;d0 5", 6);
        fault("r;d0 5 ", 7);
        fault("r;g", 3);
        fault("r;g0", 4);
    }

    private static void nothingChangesAtFault() {
        ScopeTasks x = CHECK.told("rw9;t0;", 2);
        x.ticks(3);
        x.keep(0);
        x.sees(0, 5, 1);
        Check.write(x, "r;t0;t0;g3;");
        CHECK.due("tree()", x.tree(), -19);
        CHECK.due("count(0)", x.count(0), 2);
        CHECK.due("count(1)", x.count(1), 3);
        CHECK.due("count(6)", x.count(6), 1);
        CHECK.due("count(8)", x.count(8), 3);
        CHECK.due("ends(0, 0)", x.ends(0, 0), 10);
        CHECK.due("wellBy()", x.wellBy(), 10);
        CHECK.due("back(0)", x.back(0), 3);
        CHECK.due("clear()", x.clear(), 11);
    }

    private static void allAnew() {
        ScopeTasks x = CHECK.told("rbw9;t0f1;g0;d0 5;s0 3;c0 2;", 6);
        x.ticks(4);
        x.asks(0);
        x.keep(1);
        x.sees(1, 5, 1);
        Check.write(x, "rb;t0w1;");
        CHECK.due("tree()", x.tree(), 2);
        int[] counts = {2, 0, 1, 0, 0, 0, 0, 0, 0};
        for (int what = 0; what < counts.length; what++) {
            CHECK.due("count(" + what + ") told anew", x.count(what), counts[what]);
        }
        CHECK.due("back(1)", x.back(1), -2);
        CHECK.due("undo()", x.undo(), -2);
        CHECK.due("asked", Check.each(x, 5), "0 0");
        CHECK.due("codes", Check.each(x, 6), "0 0");
        CHECK.due("DUE", Check.each(x, 4), "-9 -9");
        CHECK.due("trace(0, 0)", x.trace(0, 0), -9);
        CHECK.due("ends(0, 0)", x.ends(0, 0), 3);
        x.ticks(1);
        CHECK.due("tree() of no ITEMS", x.tree(), 0);
        CHECK.due("count(0)", x.count(0), 1);
        CHECK.due("count(1)", x.count(1), 0);
        CHECK.due("ends(0, 0)", x.ends(0, 0), 1);
        settingsAnew();
    }

    private static void settingsAnew() {
        ScopeTasks x = CHECK.told("rbbj;t0w9;t0f1;d0 9;d1 3;s0 3;s1 2;c0 5;c1 5;c2 5;g0;g1;g2;", 13);
        x.asks(0);
        x.ticks(12);
        x.ticks(12);
        Check.write(x, "rbbj;t0w9;t0f1;c1 5;");
        CHECK.due("tree()", x.tree(), 4);
        CHECK.due("DUE", Check.each(x, 4), "-9 -9 -9");
        CHECK.due("ends(0, 0): nothing gathers", x.ends(0, 0), 8);
        x.asks(0);
        CHECK.due("ends(0, 0): nothing shields", x.ends(0, 0), 1);
        x.undo();
        x.ticks(12);
        CHECK.due("trace", Check.trace(x), "1:1:0 2:2:0 3:2:1 3:2:2 3:0:1 4:1:1 8:1:2 8:0:2");
    }
}
