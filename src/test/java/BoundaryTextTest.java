/** The edges that the document names for promises 1 to 4: a test for each sentence. */
public final class BoundaryTextTest {
    private static final Check CHECK = new Check("BoundaryTextTest");
    private static final String EIGHT_TASKS = "r;t0;t0;t0;t0;t0;t0;t0;";

    public static void main(String[] args) {
        newObjectIsAsNoItems();
        lettersOfType();
        textOfAtMost120();
        clearTellsTheLength();
        eightTasksAtMost();
        parentIsToldAhead();
        sixOperationsAtMost();
        numbersOfOperations();
        numbersOfSettings();
        taskOfASetting();
        gathersOnce();
        rootFirstAndOnce();
        anyLetterAsAnItem();
        anyLetterAsAnOperation();
        anyLetterAsANumber();
        anyLetterBehindAnItem();
        blanksAlone();
        numbersThatAreNone();
        endsTooEarly();
        theFirstFaultCounts();
        toldAgainAsToldLast();
        allAnew();
        asManyCallsAsAnObjectIsUsedFor();
        CHECK.end();
    }

    /** tree() of a text on a new object; a FAULT leaves the text as it is. */
    private static void reads(String sentence, String text, int want) {
        ScopeTasks x = new ScopeTasks();
        Check.write(x, text);
        String label = "promise 4, " + sentence + ": tree() of \"" + text + "\"";
        CHECK.due(label, x.tree(), want);
        CHECK.due(label + ", then count(7)", x.count(7), want >= 0 ? 0 : text.length());
        if (want < 0) CHECK.due(label + ", then count(0)", x.count(0), 1);
    }

    private static void faults(String sentence, String text, int place) {
        reads(sentence, text, -10 - place);
    }

    private static void newObjectIsAsNoItems() {
        ScopeTasks none = new ScopeTasks();
        CHECK.due("promise 4, no ITEMS", none.tree(), 0);
        CHECK.due("promise 1, a ROOT without OPERATIONS", Check.everything(new ScopeTasks()), Check.everything(none));
        ScopeTasks root = new ScopeTasks();
        Check.write(root, "r;");
        CHECK.due("promise 4, one ITEM", root.tree(), 1);
        CHECK.due("promise 1, a ROOT without OPERATIONS, as r ;", Check.everything(new ScopeTasks()), Check.everything(root));
        ScopeTasks x = new ScopeTasks();
        CHECK.due("promise 1, the ROOT is ENDED at once", x.ticks(12), 1);
        CHECK.due("promise 1, the ROOT has nothing behind it", x.task(0, 3), 0);
        CHECK.due("promise 1, there is one TASK", x.task(1, 1), -1);
    }

    private static void lettersOfType() {
        int[] wrong = {-1, 256, 257, -256, 65536 + 'r', Integer.MIN_VALUE, Integer.MAX_VALUE};
        ScopeTasks x = new ScopeTasks();
        for (int letter : wrong) {
            CHECK.due("promise 2, type(" + letter + ")", x.type(letter), -1);
            CHECK.due("promise 2, count(7) behind type(" + letter + ")", x.count(7), 0);
        }
        for (int letter = 0; letter <= 255; letter++) {
            ScopeTasks one = new ScopeTasks();
            CHECK.due("promise 2, type(" + letter + ")", one.type(letter), 1);
        }
    }

    private static void textOfAtMost120() {
        ScopeTasks x = new ScopeTasks();
        x.type('r');
        for (int n = 2; n <= 119; n++) {
            CHECK.due("promise 2, letter " + n, x.type(' '), n);
        }
        CHECK.due("promise 2, letter 120", x.type(';'), 120);
        CHECK.due("promise 2, letter 121", x.type('y'), -3);
        CHECK.due("promise 2, letter 121 again", x.type(0), -3);
        CHECK.due("promise 2, BAD ahead of FULL", x.type(256), -1);
        CHECK.due("promise 2, BAD ahead of FULL, below", x.type(-1), -1);
        CHECK.due("promise 2, count(7)", x.count(7), 120);
        CHECK.due("promise 2, the 121st did not come to THE TEXT", x.tree(), 1);
        CHECK.due("promise 2, the first letter behind tree()", x.type('r'), 1);
        String blanks = " ".repeat(118);
        faults("the 120th letter is at 119", "r" + blanks + "y", 119);
        faults("the text's length is 120", "r" + blanks + " ", 120);
        reads("an ITEM within 120 letters", blanks + "r;", 1);
        reads("24 ITEMS within 120 letters", "r;" + "c0 0;".repeat(23) + "   ", 24);
    }

    private static void clearTellsTheLength() {
        ScopeTasks x = new ScopeTasks();
        CHECK.due("promise 3, clear() of no letter", x.clear(), 0);
        x.type('y');
        CHECK.due("promise 3, clear() of one letter", x.clear(), 1);
        CHECK.due("promise 3, clear() again", x.clear(), 0);
        Check.write(x, "y".repeat(120));
        CHECK.due("promise 3, clear() of 120 letters", x.clear(), 120);
        CHECK.due("promise 3, THE TEXT is empty", x.count(7), 0);
        CHECK.due("promise 3, the first letter behind clear()", x.type('r'), 1);
        CHECK.due("promise 3, nothing is left behind clear()", x.type(';'), 2);
        CHECK.due("promise 3, tree() behind clear()", x.tree(), 1);
        CHECK.due("promise 3, clear() behind tree()", x.clear(), 0);
        Check.write(x, "ry");
        CHECK.due("promise 4, FAULT", x.tree(), -11);
        CHECK.due("promise 3, clear() behind a FAULT", x.clear(), 2);
        ScopeTasks told = CHECK.told("rw3;t0;", 2);
        told.ticks(1);
        Check.write(told, "r;");
        told.clear();
        CHECK.due("promise 3, nothing else is changed", told.count(0) + " " + told.count(1) + " " + told.count(8), "2 1 1");
    }

    private static void eightTasksAtMost() {
        reads("eight TASKS", EIGHT_TASKS, 8);
        faults("a ninth TASK", EIGHT_TASKS + "t0;", 23);
        faults("a ninth TASK, whatever stands behind t", EIGHT_TASKS + "t", 23);
        faults("a ninth TASK, behind blanks", EIGHT_TASKS + "  t0;", 25);
        faults("a ninth TASK, behind another ITEM", EIGHT_TASKS + "g7;t0;", 26);
        reads("other ITEMS behind eight TASKS", EIGHT_TASKS + "d7 1;s7 1;c7 1;g7;", 12);
        ScopeTasks x = new ScopeTasks();
        Check.write(x, EIGHT_TASKS);
        x.tree();
        CHECK.due("promise 4, the eighth TASK", x.task(7, 0), 0);
        CHECK.due("promise 4, no ninth TASK", x.task(8, 0), -1);
    }

    private static void parentIsToldAhead() {
        reads("the PARENT is the TASK told last", "r;t0;t1;t2;t3;t4;t5;t6;", 8);
        reads("the PARENT is the ROOT", EIGHT_TASKS, 8);
        String text = "r;";
        for (int next = 1; next <= 7; next++) {
            for (int parent = next; parent <= 10; parent++) {
                faults("a PARENT that is not told ahead", text + "t" + parent + ";", text.length() + 1);
            }
            text += "t" + (next - 1) + ";";
        }
        faults("no PARENT", "r;t;", 3);
        faults("OPERATIONS in the PARENT's place", "r;tb;", 3);
        faults("two PARENTS", "r;t0 0;", 5);
        ScopeTasks x = CHECK.told("r;t0;t1;t2;t3;t4;t5;t6;", 8);
        CHECK.due("promise 4, PARENTS as told", Check.each(x, 0), "-9 0 1 2 3 4 5 6");
    }

    private static void sixOperationsAtMost() {
        reads("no OPERATIONS", "r;", 1);
        reads("no OPERATIONS of a child", "r;t0;", 2);
        for (String one : new String[] {"b", "j", "x", "w1", "f9"}) {
            String six = one.repeat(6);
            reads("six OPERATIONS", "r" + six + ";", 1);
            reads("six OPERATIONS of a child", "r;t0" + six + ";", 2);
            faults("a seventh OPERATION", "r" + six + one + ";", 1 + six.length());
            faults("a seventh OPERATION of a child", "r;t0" + six + one + ";", 4 + six.length());
        }
        faults("a seventh OPERATION, whatever stands behind it", "rbbbbbbw0;", 7);
        reads("six OPERATIONS each", "rbbbbbb;t0bbbbbb;t1bbbbbb;", 3);
        ScopeTasks x = CHECK.told("rbbbbbb;", 1);
        x.ticks(6);
        CHECK.due("promise 4, six OPERATIONS were told", x.task(0, 3) + " " + x.task(0, 1), "6 1");
    }

    private static void numbersOfOperations() {
        for (int n = 0; n <= 130; n++) {
            reads("w N (N 1 .. 9)", "rw" + n + ";", n >= 1 && n <= 9 ? 1 : -12);
            reads("f N (N 1 .. 9)", "rf" + n + ";", n >= 1 && n <= 9 ? 1 : -12);
            reads("w N of a child", "r;t0w" + n + ";", n >= 1 && n <= 9 ? 2 : -15);
        }
        for (String none : new String[] {"b", "j", "x"}) {
            faults("no NUMBER stands behind " + none, "r" + none + "1;", 2);
        }
        faults("one NUMBER stands behind w", "rw1 1;", 4);
        faults("one NUMBER stands behind f", "rf1 1;", 4);
        faults("a NUMBER is no OPERATION", "r1;", 1);
    }

    private static void numbersOfSettings() {
        for (int n = 0; n <= 130; n++) {
            reads("DEADLINE (1 .. 60)", "r;d0 " + n + ";", n >= 1 && n <= 60 ? 2 : -15);
            reads("SHIELD (0 .. 6)", "r;s0 " + n + ";", n <= 6 ? 2 : -15);
            reads("CLEAN-UP (0 .. 5)", "r;c0 " + n + ";", n <= 5 ? 2 : -15);
        }
        for (String setting : new String[] {"d", "s", "c"}) {
            faults("no N", "r;" + setting + "0;", 4);
            faults("neither T nor N", "r;" + setting + ";", 3);
            faults("two N", "r;" + setting + "0 1 1;", 7);
        }
        faults("no N stands behind g T", "r;g0 1;", 5);
        faults("no T", "r;g;", 3);
    }

    private static void taskOfASetting() {
        for (int t = 0; t <= 130; t++) {
            reads("d of a TASK told ahead", "r;t0;d" + t + " 1;", t <= 1 ? 3 : -16);
            reads("s of a TASK told ahead", "r;t0;s" + t + " 1;", t <= 1 ? 3 : -16);
            reads("c of a TASK told ahead", "r;t0;c" + t + " 1;", t <= 1 ? 3 : -16);
            reads("g of a TASK told ahead", "r;t0;g" + t + ";", t <= 1 ? 3 : -16);
        }
        faults("of a TASK that is told behind it", "r;d1 5;t0;", 3);
        reads("of the ROOT, told ahead of the others", "r;d0 5;s0 1;c0 1;g0;t0;", 6);
    }

    private static void gathersOnce() {
        reads("g of each TASK", EIGHT_TASKS + "g0;g1;g2;g3;g4;g5;g6;g7;", 16);
        faults("g of one that does already", "r;g0;g0;", 6);
        faults("g of one that does already, behind others", "r;t0;g1;g0;g1;", 12);
        faults("g of one that does already, behind blanks", "r;g0;g  0", 8);
        ScopeTasks x = CHECK.told("r;g0;", 2);
        Check.write(x, "r;g0;");
        CHECK.due("promise 4, g told anew", x.tree(), 2);
    }

    private static void rootFirstAndOnce() {
        for (String item : new String[] {"t0;", "d0 1;", "s0 1;", "c0 1;", "g0;"}) {
            faults("another ITEM ahead of r", item, 0);
            faults("another ITEM ahead of r, r behind it", "  " + item + "r;", 2);
            reads("another ITEM behind r", "r;" + item, 2);
        }
        faults("r again", "r;r;", 2);
        faults("r again, behind others", "r;t0;rb;", 5);
        faults("r within r", "rr;", 1);
        faults("an ITEM of nothing", ";", 0);
        faults("an ITEM of nothing behind r", "r;;", 2);
    }

    private static void anyLetterAsAnItem() {
        for (char letter = 0; letter <= 255; letter++) {
            int first = letter == ' ' ? 0 : letter == 'r' ? -11 : -10;
            reads("letter " + (int) letter + " first of all", "" + letter, first);
            int second = letter == ' ' ? 1 : "tdscg".indexOf(letter) >= 0 ? -13 : -12;
            reads("letter " + (int) letter + " behind an ITEM", "r;" + letter, second);
        }
    }

    private static void anyLetterAsAnOperation() {
        for (char letter = 0; letter <= 255; letter++) {
            boolean stands = " wfbjx".indexOf(letter) >= 0;
            reads("letter " + (int) letter + " behind r", "r" + letter, letter == ';' ? 1 : stands ? -12 : -11);
            reads("letter " + (int) letter + " behind b", "rb" + letter, letter == ';' ? 1 : stands ? -13 : -12);
            boolean within = letter == ' ' || letter >= '0' && letter <= '9';
            int child = letter == ';' ? 2 : stands ? -15 : within ? -13 : -14;
            reads("letter " + (int) letter + " behind t 0", "r;t0" + letter, child);
        }
    }

    private static void anyLetterAsANumber() {
        for (char letter = 0; letter <= 255; letter++) {
            boolean stands = letter == ' ' || letter >= '1' && letter <= '9';
            reads("letter " + (int) letter + " behind w", "rw" + letter, stands ? -13 : -12);
            reads("letter " + (int) letter + " behind f", "rf" + letter, stands ? -13 : -12);
            boolean root = letter == ' ' || letter == '0';
            reads("letter " + (int) letter + " behind t", "r;t" + letter, root ? -14 : -13);
            reads("letter " + (int) letter + " behind d", "r;d" + letter, root ? -14 : -13);
            reads("letter " + (int) letter + " behind g", "r;g" + letter, root ? -14 : -13);
            reads("letter " + (int) letter + " behind d 0", "r;d0 " + letter, stands ? -16 : -15);
        }
    }

    private static void anyLetterBehindAnItem() {
        for (char letter = 0; letter <= 255; letter++) {
            boolean digit = letter >= '0' && letter <= '9';
            int gathers = letter == ';' ? 2 : letter == ' ' ? -15 : digit ? -13 : -14;
            reads("letter " + (int) letter + " behind g 0", "r;g0" + letter, gathers);
            int shield = letter == ';' ? 2 : letter == ' ' ? -17 : digit ? -15 : -16;
            reads("letter " + (int) letter + " behind s 0 5", "r;s0 5" + letter, shield);
        }
    }

    private static void blanksAlone() {
        reads("no letter", "", 0);
        reads("a blank alone", " ", 0);
        reads("120 blanks", " ".repeat(120), 0);
        reads("blanks between all TOKENS", "  r  w  9  b ;  t  0  f  1  ;  d  1  60  ;  g  1  ; ", 4);
        reads("no blanks", "rw9b;t0f1;d1 60;g1;", 4);
        faults("a blank ends a NUMBER", "r;d0 6 0;", 7);
        faults("a blank ends T", "r;d 00;", 4);
        for (int letter : new int[] {0, 9, 10, 11, 12, 13, 31, 33, 95, 133, 160}) {
            faults("letter " + letter + " is no blank", "r" + (char) letter + ";", 1);
        }
    }

    private static void numbersThatAreNone() {
        faults("a NUMBER above 99", "rw100;", 2);
        faults("a NUMBER that would wrap around to 1 in 8 bits", "rw257;", 2);
        faults("a NUMBER that would wrap around to 1 in 16 bits", "rw65537;", 2);
        faults("a NUMBER that would wrap around to 1 in 32 bits", "rw4294967297;", 2);
        faults("a NUMBER that would wrap around to 1 in 64 bits", "rw18446744073709551617;", 2);
        faults("a NUMBER of 118 digits", "rw" + "9".repeat(118), 2);
        faults("a 0 and 118 digits", "rw0" + "1".repeat(117), 2);
        for (int n = 0; n <= 9; n++) {
            faults("a 0 ahead of others", "rw0" + n + ";", 2);
            faults("a 0 ahead of others, T", "r;d0" + n + " 5;", 3);
            faults("a 0 ahead of others, N", "r;s0 0" + n + ";", 5);
            faults("a 0 ahead of others, P", "r;t0" + n + ";", 3);
        }
        faults("two 0 ahead of others", "rw001;", 2);
        faults("a NUMBER above 99 where none can stand", "r100;", 1);
        faults("a NUMBER first of all", "7", 0);
        reads("a 0 alone", "r;c0 0;", 2);
        reads("a 0 behind others", "r;d0 10;", 2);
    }

    private static void endsTooEarly() {
        String[] items = {"rw1b;", "t0 f1 x;", "d1 60;", "s1 6;", "c1 5;", "g1;"};
        String text = "";
        for (String item : items) {
            for (int cut = 1; cut < item.length(); cut++) {
                String early = text + item.substring(0, cut);
                faults("it ends too early", early, early.length());
                faults("it ends too early, behind blanks", early + "   ", early.length() + 3);
            }
            text += item;
        }
        reads("it ends in time", text, 6);
        faults("six OPERATIONS, too early", "rbbbbbb", 7);
    }

    private static void theFirstFaultCounts() {
        faults("the first FAULT, a letter behind it", "t0;y", 0);
        faults("the first FAULT, another behind it", "rw0w0;", 2);
        faults("the first FAULT, a letter ahead", "r;y;r;", 2);
        faults("the first FAULT, no end behind it", "r;d9", 3);
        faults("T ahead of N", "r;d9 99;", 3);
        faults("a letter of the wrong case", "R;", 0);
    }

    private static void toldAgainAsToldLast() {
        ScopeTasks d = CHECK.told("rw9;d0 60;d0 1;", 3);
        CHECK.due("promise 4, d told again", d.task(0, 4), 1);
        ScopeTasks more = CHECK.told("rw9;d0 1;d0 60;", 3);
        CHECK.due("promise 4, d told again, more", more.task(0, 4), 60);
        ScopeTasks s = CHECK.told("rw9w9;s0 6;s0 1;", 3);
        s.asks(0);
        CHECK.due("promise 4, s told again", s.ends(0, 0), 10);
        ScopeTasks none = CHECK.told("rw9w9;s0 6;s0 0;", 3);
        none.asks(0);
        CHECK.due("promise 4, s told again, none", none.ends(0, 0), 1);
        CHECK.due("promise 4, c told again", CHECK.told("r;c0 5;c0 2;", 3).ends(0, 0), 2);
        CHECK.due("promise 4, c told again, none", CHECK.told("r;c0 5;c0 0;", 3).ends(0, 0), 1);
        CHECK.due("promise 4, c told again, more", CHECK.told("r;c0 0;c0 5;", 3).ends(0, 0), 5);
    }

    private static void allAnew() {
        String second = "rbw1;t0w1;";
        for (String first : new String[] {"rbbw3;t0f1;t0w9;d0 3;s0 2;c0 1;g0;", "", "r;t0;t1;d1 1;g1;c1 5;s1 6;"}) {
            ScopeTasks x = new ScopeTasks();
            Check.write(x, first);
            x.tree();
            x.keep(0);
            x.ticks(4);
            x.asks(0);
            x.sees(0, 1, 1);
            x.keep(1);
            Check.write(x, second);
            CHECK.due("promise 4, tree() told anew", x.tree(), 2);
            CHECK.due("promise 4, read anew behind \"" + first + "\"", Check.everything(x),
                Check.everything(CHECK.told(second, 2)));
        }
        ScopeTasks none = CHECK.told("rbw9;t0w9;c0 5;d0 3;", 4);
        none.ticks(2);
        none.keep(0);
        none.sees(1, 9, 0);
        CHECK.due("promise 4, no ITEMS, anew", none.tree(), 0);
        CHECK.due("promise 4, as a new object", Check.everything(none), Check.everything(new ScopeTasks()));
    }

    private static void asManyCallsAsAnObjectIsUsedFor() {
        ScopeTasks x = new ScopeTasks();
        Check.write(x, "rw9w9w9;");
        x.tree();
        for (int call = 10; call <= 509; call += 2) {
            CHECK.due("promise 5, ticks(1) as call " + call, x.ticks(1), 1);
            CHECK.due("promise 7, undo() as call " + (call + 1), x.undo(), 0);
        }
        CHECK.due("promise 5, ticks(12) as call 510", x.ticks(12), 12);
        CHECK.due("promise 11, ends(0, 0) as call 511", x.ends(0, 0), 28);
        CHECK.due("promise 19, count(8) as call 512", x.count(8), 12);
    }
}
