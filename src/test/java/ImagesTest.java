/** Promises 17 and 18: keep, back. */
public final class ImagesTest {
    private static final Check CHECK = new Check("ImagesTest");

    public static void main(String[] args) {
        refused();
        allOfTheTasks();
        nothingElse();
        twoImages();
        imagesOfTwoWays();
        CHECK.end();
    }

    private static void refused() {
        ScopeTasks x = CHECK.told("rw9;", 1);
        int[] noImage = {-1, 2, Integer.MAX_VALUE, Integer.MIN_VALUE};
        for (int image : noImage) {
            CHECK.due("keep(" + image + ")", x.keep(image), -1);
            CHECK.due("back(" + image + ")", x.back(image), -1);
        }
        CHECK.due("back(0)", x.back(0), -2);
        CHECK.due("keep(1)", x.keep(1), 0);
        CHECK.due("back(0)", x.back(0), -2);
        CHECK.due("back(1)", x.back(1), 0);
    }

    private static void allOfTheTasks() {
        ScopeTasks x = CHECK.told("rbbj;t0w2f1;t0w2w9;s2 1;g0;c1 2;d2 9;", 7);
        x.ticks(4);
        x.asks(2);
        CHECK.due("keep(0)", x.keep(0), 4);
        String[] then = new String[8];
        for (int what = 0; what < 8; what++) {
            then[what] = Check.each(x, what);
        }
        String lists = Check.list(x, 0) + "/" + Check.list(x, 1);
        String trace = Check.trace(x);
        CHECK.due("trace at 4", trace, "1:1:0 2:2:0 4:1:1");
        x.ticks(12);
        String end = Check.trace(x);
        CHECK.due("trace at the end", end, "1:1:0 2:2:0 4:1:1 5:2:1 5:2:2 5:1:2 7:0:1 7:0:2");
        for (int again = 0; again < 2; again++) {
            CHECK.due("back(0)", x.back(0), 4);
            CHECK.due("count(1)", x.count(1), 4);
            for (int what = 0; what < 8; what++) {
                CHECK.due("task(t, " + what + ") behind back", Check.each(x, what), then[what]);
            }
            CHECK.due("LISTS behind back", Check.list(x, 0) + "/" + Check.list(x, 1), lists);
            CHECK.due("trace behind back", Check.trace(x), trace);
            CHECK.due("ticks(12)", x.ticks(12), 7);
            CHECK.due("trace at the end", Check.trace(x), end);
        }
    }

    private static void nothingElse() {
        ScopeTasks x = CHECK.told("rw9;", 1);
        x.ticks(2);
        CHECK.due("keep(0)", x.keep(0), 2);
        CHECK.due("count(8) behind keep", x.count(8), 2);
        CHECK.due("undo() behind keep", x.undo(), 1);
        CHECK.due("count(1)", x.count(1), 1);
        x.sees(0, 4, 1);
        x.type('r');
        CHECK.due("back(0)", x.back(0), 2);
        CHECK.due("count(6)", x.count(6), 1);
        CHECK.due("count(7)", x.count(7), 1);
        CHECK.due("count(8) behind back", x.count(8), 0);
        CHECK.due("undo() behind back", x.undo(), -2);
        CHECK.due("count(1)", x.count(1), 2);
        x.ticks(1);
        CHECK.due("undo()", x.undo(), 0);
        CHECK.due("count(1)", x.count(1), 2);
    }

    /** Two ways from one beginning: each image keeps its own lists, trace and ends. */
    private static void imagesOfTwoWays() {
        ScopeTasks x = CHECK.told("rbbw3j;g0;t0w2f1;t0w2f2;c1 2;", 5);
        x.keep(1);
        x.ticks(8);
        CHECK.due("LIST of 0", Check.list(x, 0), "2 1");
        CHECK.due("ends", x.ends(1, 0) + " " + x.ends(2, 0), "5 5");
        String trace = Check.trace(x);
        CHECK.due("keep(0)", x.keep(0), 7);
        CHECK.due("back(1)", x.back(1), 0);
        x.ticks(2);
        x.asks(2);
        x.ticks(12);
        CHECK.due("LIST of 0, 2 being ASKED", Check.list(x, 0), "1");
        CHECK.due("ends, 2 being ASKED", x.ends(1, 0) + " " + x.ends(2, 0), "5 3");
        CHECK.due("back(0)", x.back(0), 7);
        CHECK.due("LIST of 0 behind back", Check.list(x, 0), "2 1");
        CHECK.due("ends behind back", x.ends(1, 0) + " " + x.ends(2, 0), "5 5");
        CHECK.due("trace behind back", Check.trace(x), trace);
        ScopeTasks begun = CHECK.told("rw1b;t0w2;", 2);
        begun.ticks(2);
        begun.keep(0);
        begun.ticks(12);
        begun.back(0);
        begun.ticks(1);
        CHECK.due("behind, one TICK later", Check.each(begun, 3), "2 0");
        begun.ticks(1);
        CHECK.due("behind, two TICKS later", Check.each(begun, 3), "2 1");
    }

    private static void twoImages() {
        ScopeTasks x = CHECK.told("rw9w9;", 1);
        CHECK.due("keep(0)", x.keep(0), 0);
        x.ticks(5);
        CHECK.due("keep(1)", x.keep(1), 5);
        x.ticks(5);
        CHECK.due("back(0)", x.back(0), 0);
        CHECK.due("back(1)", x.back(1), 5);
        x.ticks(2);
        CHECK.due("keep(0) over the other", x.keep(0), 7);
        CHECK.due("back(1)", x.back(1), 5);
        CHECK.due("back(0)", x.back(0), 7);
        CHECK.due("ends(0, 0)", x.ends(0, 0), 19);
        Check.write(x, "rw9;");
        CHECK.due("tree()", x.tree(), 1);
        CHECK.due("back(0) told anew", x.back(0), -2);
        CHECK.due("back(1) told anew", x.back(1), -2);
    }
}
