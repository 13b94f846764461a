import java.util.Random;

/** Runs of calls, drawn by a fixed seed, on the program and on its model: each answer must be the same. */
public final class ModelTest {
    private static final int RUNS = 3000;
    private static final int MOST_CALLS = 512;
    // A text of 120 letters told, one call, and a look at eight TASKS.
    private static final int MOST_CALLS_A_ROUND = 123 + 1 + 83;
    private static final int[] ODD = {-1, 8, 9, 13, 60, 61, 100, 256, Integer.MAX_VALUE, Integer.MIN_VALUE};

    private final Check check = new Check("ModelTest");
    private final Random random = new Random(20261117);
    private ScopeTasks x;
    private Model model;
    private int calls;
    private String run;

    public static void main(String[] args) {
        ModelTest test = new ModelTest();
        for (int i = 0; i < RUNS; i++) {
            test.oneRun(i);
        }
        test.check.end();
    }

    private void oneRun(int i) {
        x = new ScopeTasks();
        model = new Model();
        calls = 0;
        run = "run " + i + " ";
        while (calls <= MOST_CALLS - MOST_CALLS_A_ROUND) {
            if (calls == 0 || random.nextInt(40) == 0) tell();
            anyCall();
            if (random.nextInt(12) == 0) look();
        }
    }

    private void due(String call, int got, int want) {
        calls++;
        check.due(run + "call " + calls + " " + call, got, want);
    }

    private void tell() {
        String text = random.nextInt(8) == 0 ? spoiled(tree()) : tree();
        if (random.nextInt(3) == 0) due("clear()", x.clear(), model.clear());
        for (int i = 0; i < text.length(); i++) {
            due("type", x.type(text.charAt(i)), model.type(text.charAt(i)));
        }
        run += "\"" + text + "\" ";
        due("tree()", x.tree(), model.tree());
        if (model.count(7) > 0 && random.nextBoolean()) due("clear()", x.clear(), model.clear());
    }

    private int upTo(int most) {
        return random.nextInt(most + 1);
    }

    private String tree() {
        StringBuilder text = new StringBuilder("r").append(program(true)).append(';');
        int most = upTo(7);
        int tasks = 1;
        while (tasks <= most) {
            int parent = random.nextBoolean() ? 0 : random.nextInt(tasks);
            text.append('t').append(parent).append(program(random.nextInt(3) == 0)).append(';');
            tasks++;
        }
        int settings = upTo(6);
        int gathered = 0;
        for (int i = 0; i < settings; i++) {
            int t = random.nextInt(tasks);
            switch (upTo(3)) {
                case 0 -> text.append('d').append(t).append(' ').append(1 + upTo(random.nextBoolean() ? 12 : 59));
                case 1 -> text.append('s').append(t).append(' ').append(upTo(6));
                case 2 -> text.append('c').append(t).append(' ').append(upTo(5));
                default -> text.append((gathered & 1 << t) == 0 ? "g" + t : "s" + t + " 1");
            }
            if (text.toString().endsWith("g" + t)) gathered |= 1 << t;
            text.append(';');
        }
        return text.length() <= 120 ? text.toString() : tree();
    }

    private String program(boolean parent) {
        StringBuilder text = new StringBuilder();
        int operations = upTo(6);
        for (int i = 0; i < operations; i++) {
            String kinds = parent ? "bbbbbjjxwwwf" : "bjwwwwf";
            char kind = kinds.charAt(random.nextInt(kinds.length()));
            text.append(random.nextInt(9) == 0 ? " " : "").append(kind);
            if (kind == 'w' || kind == 'f') text.append(1 + upTo(random.nextBoolean() ? 2 : 8));
        }
        return text.toString();
    }

    private String spoiled(String text) {
        StringBuilder spoiled = new StringBuilder(text);
        int changes = 1 + upTo(2);
        for (int i = 0; i < changes && spoiled.length() > 1; i++) {
            int at = random.nextInt(spoiled.length());
            char letter = "rtdscgwbjxf;0123456789  y".charAt(random.nextInt(25));
            switch (upTo(3)) {
                case 0 -> spoiled.deleteCharAt(at);
                case 1 -> spoiled.insert(at, letter);
                case 2 -> spoiled.setCharAt(at, letter);
                default -> spoiled.setLength(at);
            }
        }
        return spoiled.toString();
    }

    private int number(int most) {
        return random.nextInt(25) == 0 ? ODD[random.nextInt(ODD.length)] : upTo(most);
    }

    private int aTask() {
        return random.nextInt(25) == 0 ? ODD[random.nextInt(ODD.length)] : random.nextInt(model.count(0));
    }

    private void anyCall() {
        int t = aTask();
        int n = number(60);
        int few = random.nextInt(4) == 0 ? number(12) : 1 + upTo(1);
        int bit = number(1);
        switch (upTo(19)) {
            case 0, 1, 2, 3, 4 -> due("ticks(" + few + ")", x.ticks(few), model.ticks(few));
            case 5, 6 -> due("asks(" + t + ")", x.asks(t), model.asks(t));
            case 7, 8 -> due("undo()", x.undo(), model.undo());
            case 9 -> due("wellBy()", x.wellBy(), model.wellBy());
            case 10 -> due("spares(" + t + ")", x.spares(t), model.spares(t));
            case 11 -> due("ends(" + t + ", " + bit + ")", x.ends(t, bit), model.ends(t, bit));
            case 12, 13 -> due("sees(" + t + ", " + n + ", " + bit + ")", x.sees(t, n, bit), model.sees(t, n, bit));
            case 14 -> due("fits(" + t + ")", x.fits(t), model.fits(t));
            case 15 -> due("keep(" + bit + ")", x.keep(bit), model.keep(bit));
            case 16 -> due("back(" + bit + ")", x.back(bit), model.back(bit));
            case 17 -> due("type(" + n + ")", x.type(n + 195), model.type(n + 195));
            case 18 -> due("clear()", x.clear(), model.clear());
            default -> {
                if (random.nextInt(4) == 0) due("forget()", x.forget(), model.forget());
            }
        }
    }

    private void look() {
        for (int what = -1; what <= 9; what++) {
            due("count(" + what + ")", x.count(what), model.count(what));
        }
        for (int t = 0; t < model.count(0); t++) {
            for (int what = 0; what <= 7; what++) {
                due("task(" + t + ", " + what + ")", x.task(t, what), model.task(t, what));
            }
        }
        int t = aTask();
        for (int k = 0; k < 4; k++) {
            due("failure(" + t + ", " + k + ")", x.failure(t, k), model.failure(t, k));
            int event = number(23);
            due("trace(" + event + ", " + k + ")", x.trace(event, k), model.trace(event, k));
        }
    }
}
