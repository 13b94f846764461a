/** The edges that the document names for promises 17 and 18 (keep, back): a test for each sentence. */
public final class BoundaryImagesTest {
    private static final Check CHECK = new Check("BoundaryImagesTest");

    public static void main(String[] args) {
        noSuchImage();
        noneWasKept();
        keptAtTheBeginningAndAtTheEnd();
        eachImageAlone();
        keptAgain();
        backAgainAndAgain();
        allOfSectionTwo();
        nothingElse();
        nothingCanBeUndoneBehindBack();
        imagesOutlastUndo();
        goneWhenReadAnew();
        CHECK.end();
    }

    private static void noSuchImage() {
        ScopeTasks x = CHECK.told("rw9;", 1);
        x.keep(0);
        x.keep(1);
        x.ticks(2);
        for (int image : new int[] {-1, 2, 3, 256, Integer.MIN_VALUE, Integer.MAX_VALUE}) {
            CHECK.due("promise 17, BAD: keep(" + image + ")", x.keep(image), -1);
            CHECK.due("promise 18, BAD: back(" + image + ")", x.back(image), -1);
        }
        CHECK.due("promise 18, nothing changes", x.count(1) + " " + x.count(8), "2 2");
        CHECK.due("promise 17, nothing was kept anew", x.back(0) + " " + x.back(1), "0 0");
        ScopeTasks none = new ScopeTasks();
        CHECK.due("promise 18, BAD ahead of STATE", none.back(2) + " " + none.back(-1), "-1 -1");
    }

    private static void noneWasKept() {
        ScopeTasks x = CHECK.told("rw9;", 1);
        x.ticks(2);
        CHECK.due("promise 18, STATE", x.back(0) + " " + x.back(1), "-2 -2");
        CHECK.due("promise 18, nothing changes behind STATE", x.count(1) + " " + x.count(8), "2 2");
        x.keep(1);
        CHECK.due("promise 18, STATE of the other one", x.back(0) + " " + x.count(8), "-2 2");
        ScopeTasks zero = CHECK.told("rw9;", 1);
        zero.keep(0);
        CHECK.due("promise 18, STATE of image 1", zero.back(1) + " " + zero.back(0), "-2 0");
    }

    private static void keptAtTheBeginningAndAtTheEnd() {
        ScopeTasks x = CHECK.told("rw2;", 1);
        CHECK.due("promise 17, at TICK 0", x.keep(0), 0);
        x.ticks(12);
        CHECK.due("promise 17, the ROOT is ENDED", x.keep(1), 3);
        CHECK.due("promise 18, TICK 0", x.back(0) + " " + x.task(0, 1) + " " + x.count(5), "0 1 0");
        CHECK.due("promise 5, it goes on", x.ticks(1), 1);
        CHECK.due("promise 18, the ROOT is ENDED", x.back(1) + " " + x.task(0, 1) + " " + x.count(5), "3 3 2");
        CHECK.due("promise 5, STATE behind back()", x.ticks(1), -2);
        ScopeTasks root = new ScopeTasks();
        CHECK.due("promise 17, of a new object", root.keep(0) + " " + root.back(0), "0 0");
    }

    private static void eachImageAlone() {
        ScopeTasks x = CHECK.told("rw9w9;", 1);
        x.ticks(3);
        x.keep(0);
        x.ticks(4);
        x.keep(1);
        x.ticks(5);
        CHECK.due("promise 18, image 0", x.back(0) + " " + x.count(1), "3 3");
        CHECK.due("promise 18, image 1", x.back(1) + " " + x.count(1), "7 7");
        CHECK.due("promise 18, image 0 again", x.back(0) + " " + x.task(0, 3), "3 0");
    }

    private static void keptAgain() {
        ScopeTasks x = CHECK.told("rw9w9;", 1);
        x.keep(0);
        x.keep(1);
        x.ticks(4);
        CHECK.due("promise 17, kept again", x.keep(0), 4);
        x.ticks(4);
        CHECK.due("promise 18, as it was kept last", x.back(0), 4);
        CHECK.due("promise 18, the other one as it was", x.back(1), 0);
        CHECK.due("promise 17, kept behind back()", x.keep(0), 0);
        x.ticks(1);
        CHECK.due("promise 18, as it was kept behind back()", x.back(0), 0);
    }

    private static void backAgainAndAgain() {
        ScopeTasks x = CHECK.told("rbw9;t0w2f1;", 2);
        x.ticks(2);
        x.keep(1);
        for (int again = 0; again < 5; again++) {
            CHECK.due("promise 18, again and again", x.back(1), 2);
            CHECK.due("promise 18, the image is as it was", Check.each(x, 1) + " " + Check.each(x, 6), "1 1 0 0");
            x.asks(0);
            x.ticks(12);
            CHECK.due("promise 18, what came is not in it", Check.each(x, 2), "2 2");
        }
    }

    private static void allOfSectionTwo() {
        ScopeTasks x = CHECK.told("rbbj;t0w2f1;t0w2w9;s2 1;g0;c1 2;d2 9;", 7);
        x.ticks(4);
        x.asks(2);
        x.keep(0);
        String then = Check.look(x).replaceAll("^((\\S+ ){8})\\S+ ", "$1");
        x.ticks(12);
        x.back(0);
        CHECK.due("promise 18, all becomes as the image has it", Check.look(x).replaceAll("^((\\S+ ){8})\\S+ ", "$1"), then);
        x.ticks(12);
        CHECK.due("promise 18, and goes on as it would", Check.trace(x), "1:1:0 2:2:0 4:1:1 5:2:1 5:2:2 5:1:2 7:0:1 7:0:2");
        ScopeTasks part = CHECK.told("rw3;c0 3;", 2);
        part.ticks(2);
        part.keep(0);
        part.ticks(3);
        part.keep(1);
        part.back(0);
        CHECK.due("promise 18, work that is half over", part.ends(0, 0), 6);
        part.back(1);
        CHECK.due("promise 18, a CLEAN-UP that is half over", part.ends(0, 0) + " " + part.task(0, 1), "6 2");
    }

    private static void nothingElse() {
        ScopeTasks x = CHECK.told("rw9;", 1);
        x.sees(0, 5, 1);
        Check.write(x, "r;");
        x.keep(0);
        x.sees(0, 4, 0);
        Check.write(x, "t0;");
        x.back(0);
        CHECK.due("promise 17, nothing else: SEEN", x.count(6), 2);
        CHECK.due("promise 17, nothing else: what was SEEN", x.fits(0), 1 << 4);
        CHECK.due("promise 17, nothing else: letters", x.count(7), 5);
        CHECK.due("promise 17, nothing else: THE TEXT", x.tree(), 2);
        ScopeTasks gone = CHECK.told("rw9;", 1);
        gone.sees(0, 5, 1);
        Check.write(gone, "r;");
        gone.keep(0);
        gone.forget();
        gone.clear();
        gone.back(0);
        CHECK.due("promise 17, nothing else: what is gone", gone.count(6) + " " + gone.count(7), "0 0");
    }

    private static void nothingCanBeUndoneBehindBack() {
        ScopeTasks x = CHECK.told("rw9w9;", 1);
        x.ticks(3);
        x.keep(0);
        CHECK.due("promise 17, what may be UNDONE behind keep()", x.count(8), 3);
        x.ticks(12);
        CHECK.due("promise 18, back()", x.back(0), 3);
        CHECK.due("promise 18, nothing can be UNDONE", x.count(8) + " " + x.undo() + " " + x.count(1), "0 -2 3");
        x.ticks(2);
        CHECK.due("promise 18, what was done behind it can", x.undo() + " " + x.undo() + " " + x.undo(), "1 0 -2");
        CHECK.due("promise 18, TICK as in the image", x.count(1), 3);
    }

    private static void imagesOutlastUndo() {
        ScopeTasks x = CHECK.told("rw9w9;", 1);
        x.ticks(3);
        x.keep(0);
        x.undo();
        x.undo();
        x.keep(1);
        CHECK.due("promise 17, undo() does not reach an image", x.back(0) + " " + x.back(1), "3 1");
        Check.write(x, "y");
        CHECK.due("promise 4, FAULT", x.tree(), -10);
        CHECK.due("promise 4, IMAGES behind a FAULT", x.back(0) + " " + x.back(1), "3 1");
    }

    private static void goneWhenReadAnew() {
        for (String text : new String[] {"rw9;", "", "  ", "r;t0;"}) {
            ScopeTasks x = CHECK.told("rw9;", 1);
            x.ticks(1);
            x.keep(0);
            x.keep(1);
            Check.write(x, text);
            x.tree();
            CHECK.due("promise 4, IMAGES are gone behind \"" + text + "\"", x.back(0) + " " + x.back(1), "-2 -2");
            CHECK.due("promise 17, kept anew", x.keep(1) + " " + x.back(1) + " " + x.back(0), "0 0 -2");
        }
    }
}
