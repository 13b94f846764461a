import java.util.ArrayDeque;
import java.util.ArrayList;
import java.util.List;
import java.util.regex.Matcher;
import java.util.regex.Pattern;

/** A second program for the same document, written with the Java library and without care for room or speed. */
final class Model {
    enum How { UNBEGUN, RUNNING, CLOSING, ENDED }

    enum Out { WELL, FAILED, CANCELLED, LATE }

    record Operation(char kind, int number) { }

    record Seen(int task, int ticks, boolean ended) { }

    record Event(int tick, int task, int what) { }

    /** A TASK: what was told of it, and how it is. */
    static final class Task {
        final int number;
        final int parent;
        List<Operation> program = new ArrayList<>();
        Integer deadline = null;
        int shield = 0;
        int cleanUp = 0;
        boolean gathers = false;

        How how = How.UNBEGUN;
        Out out = null;
        int begun = 0;
        Integer ended = null;
        Integer due = null;
        int behind = 0;
        int workLeft = 0;
        int cleanLeft = 0;
        boolean asked = false;
        List<Integer> list = new ArrayList<>();

        Task(int number, int parent) {
            this.number = number;
            this.parent = parent;
        }

        Task asTold() {
            Task copy = new Task(number, parent);
            copy.program = program;
            copy.deadline = deadline;
            copy.shield = shield;
            copy.cleanUp = cleanUp;
            copy.gathers = gathers;
            return copy;
        }

        Task copy() {
            Task copy = asTold();
            copy.how = how;
            copy.out = out;
            copy.begun = begun;
            copy.ended = ended;
            copy.due = due;
            copy.behind = behind;
            copy.workLeft = workLeft;
            copy.cleanLeft = cleanLeft;
            copy.asked = asked;
            copy.list = new ArrayList<>(list);
            return copy;
        }
    }

    /** All of section 2. */
    static final class World {
        final List<Task> tasks = new ArrayList<>();
        final List<Event> trace = new ArrayList<>();
        int tick = 0;

        World copy() {
            World copy = new World();
            for (Task task : tasks) copy.tasks.add(task.copy());
            copy.trace.addAll(trace);
            copy.tick = tick;
            return copy;
        }

        World fromTheBeginning() {
            World copy = new World();
            for (Task task : tasks) copy.tasks.add(task.asTold());
            return copy;
        }

        World begin() {
            begin(tasks.get(0));
            trace.clear();
            return this;
        }

        Task root() {
            return tasks.get(0);
        }

        List<Task> children(Task of, How... hows) {
            List<Task> found = new ArrayList<>();
            for (Task task : tasks) {
                if (task.parent == of.number && List.of(hows).contains(task.how)) found.add(task);
            }
            return found;
        }

        void begin(Task task) {
            task.how = How.RUNNING;
            task.begun = tick;
            task.due = task.deadline == null ? null : Integer.valueOf(tick + task.deadline);
            Integer above = task.parent < 0 ? null : tasks.get(task.parent).due;
            if (above != null && (task.due == null || task.due > above)) task.due = above;
            event(task, 0);
        }

        void event(Task task, int what) {
            if (trace.size() < 60) trace.add(new Event(tick, task.number, what));
        }

        void code(Task task, int code) {
            if (task.list.size() < 8) task.list.add(code);
        }

        void askChildren(Task task) {
            for (Task child : children(task, How.RUNNING)) child.asked = true;
        }

        void closes(Task task, Out out) {
            task.how = How.CLOSING;
            task.cleanLeft = task.cleanUp;
            task.out = out;
            event(task, 1);
            if (out != Out.WELL || !task.list.isEmpty()) askChildren(task);
            if (out == Out.WELL && !task.list.isEmpty()) task.out = Out.FAILED;
        }

        void tick() {
            tick++;
            for (Task task : tasks) {
                if (task.how == How.RUNNING && task.due != null && tick > task.due) {
                    code(task, 10);
                    closes(task, Out.LATE);
                }
            }
            for (Task task : tasks) {
                if (task.how == How.RUNNING && (task.number == 0 || task.begun < tick)) step(task);
            }
            for (int t = tasks.size() - 1; t >= 0; t--) {
                Task task = tasks.get(t);
                if (task.how != How.CLOSING || !children(task, How.RUNNING, How.CLOSING).isEmpty()) continue;
                if (task.cleanLeft > 0) task.cleanLeft--;
                if (task.cleanLeft == 0) ended(task);
            }
        }

        private void step(Task task) {
            if (task.asked && task.behind >= task.shield) {
                closes(task, Out.CANCELLED);
                return;
            }
            if (task.behind == task.program.size()) {
                closes(task, Out.WELL);
                return;
            }
            Operation operation = task.program.get(task.behind);
            if (operation.kind() == 'w') {
                if (task.workLeft == 0) task.workLeft = operation.number();
                task.workLeft--;
                if (task.workLeft == 0) task.behind++;
            } else if (operation.kind() == 'b') {
                List<Task> unbegun = children(task, How.UNBEGUN);
                if (!unbegun.isEmpty()) begin(unbegun.get(0));
                task.behind++;
            } else if (operation.kind() == 'j') {
                int begun = children(task, How.RUNNING, How.CLOSING, How.ENDED).size();
                if (begun == children(task, How.ENDED).size()) task.behind++;
            } else if (operation.kind() == 'x') {
                askChildren(task);
                task.behind++;
            } else {
                code(task, operation.number());
                closes(task, Out.FAILED);
            }
        }

        private void ended(Task task) {
            task.how = How.ENDED;
            task.ended = tick;
            event(task, 2);
            if (task.number == 0 || task.out == Out.WELL || task.out == Out.CANCELLED) return;
            Task parent = tasks.get(task.parent);
            for (int code : task.list) code(parent, code);
            if (parent.how == How.RUNNING) {
                if (!parent.gathers) closes(parent, Out.FAILED);
            } else if (parent.how == How.CLOSING && parent.out == Out.WELL) {
                parent.out = Out.FAILED;
                askChildren(parent);
            }
        }

        World after(int ticks) {
            for (int i = 0; i < ticks && root().how != How.ENDED; i++) tick();
            return this;
        }
    }

    /** Where the text is at fault. */
    static final class Fault extends RuntimeException {
        final int place;

        Fault(int place) {
            super("at " + place);
            this.place = place;
        }
    }

    /** The text by its grammar; each TOKEN is taken with a pattern of what may stand there. */
    static final class Grammar {
        private static final Pattern TOKEN = Pattern.compile(" *(\\d+|[^ \\d])?", Pattern.DOTALL);
        private final String text;
        private int at = 0;
        private int items = 0;
        private final World world = new World();

        Grammar(String text) {
            this.text = text;
            world.tasks.add(new Task(0, -1));
        }

        private String look() {
            Matcher m = TOKEN.matcher(text);
            m.find(at);
            return m.group(1) == null ? "" : m.group(1);
        }

        private int place() {
            int p = at;
            while (p < text.length() && text.charAt(p) == ' ') p++;
            return p;
        }

        private String take(String may) {
            String token = look();
            if (token.isEmpty() || !token.matches(may)) throw new Fault(place());
            at = place() + token.length();
            return token;
        }

        private int number(int least, int most) {
            int place = place();
            int n = Integer.parseInt(take("0|[1-9]\\d?"));
            if (n < least || n > most) throw new Fault(place);
            return n;
        }

        World read() {
            while (!look().isEmpty()) {
                item();
                items++;
            }
            return world;
        }

        private void item() {
            String may = items == 0 ? "r" : world.tasks.size() < 8 ? "[tdscg]" : "[dscg]";
            char kind = take(may).charAt(0);
            int last = world.tasks.size() - 1;
            switch (kind) {
                case 'r' -> operations(world.tasks.get(0));
                case 't' -> {
                    Task task = new Task(last + 1, number(0, last));
                    world.tasks.add(task);
                    operations(task);
                }
                case 'd' -> world.tasks.get(number(0, last)).deadline = number(1, 60);
                case 's' -> world.tasks.get(number(0, last)).shield = number(0, 6);
                case 'c' -> world.tasks.get(number(0, last)).cleanUp = number(0, 5);
                default -> {
                    int place = place();
                    Task task = world.tasks.get(number(0, last));
                    if (task.gathers) throw new Fault(place);
                    task.gathers = true;
                }
            }
            take(";");
        }

        private void operations(Task task) {
            while (!look().equals(";")) {
                char kind = take(task.program.size() < 6 ? "[wbjxf]" : ";").charAt(0);
                task.program.add(new Operation(kind, kind == 'w' || kind == 'f' ? number(1, 9) : 0));
            }
        }
    }

    private static final int BAD = -1, STATE = -2, FULL = -3, NONE = -9, NO = -1000000;
    private final StringBuilder text = new StringBuilder();
    private World now = new Grammar("").read().begin();
    private final ArrayDeque<World> acts = new ArrayDeque<>();
    private final World[] images = new World[2];
    private final List<Seen> seen = new ArrayList<>();

    private Task task(int t) {
        return t < 0 || t >= now.tasks.size() ? null : now.tasks.get(t);
    }

    private void act() {
        acts.addLast(now.copy());
        if (acts.size() > 12) acts.removeFirst();
    }

    int type(int letter) {
        if (letter < 0 || letter > 255) return BAD;
        if (text.length() == 120) return FULL;
        return text.append((char) letter).length();
    }

    int clear() {
        int had = text.length();
        text.setLength(0);
        return had;
    }

    int tree() {
        Grammar grammar = new Grammar(text.toString());
        try {
            now = grammar.read().begin();
        } catch (Fault fault) {
            return -10 - fault.place;
        }
        text.setLength(0);
        acts.clear();
        seen.clear();
        images[0] = null;
        images[1] = null;
        return grammar.items;
    }

    int ticks(int n) {
        if (n < 1 || n > 12) return BAD;
        if (now.root().how == How.ENDED) return STATE;
        if (now.tick + n > 999) return FULL;
        for (int i = 0; i < n && now.root().how != How.ENDED; i++) {
            act();
            now.tick();
        }
        return now.tick;
    }

    int asks(int t) {
        Task task = task(t);
        if (task == null) return BAD;
        if (task.how != How.RUNNING || task.asked) return STATE;
        act();
        task.asked = true;
        return task.behind;
    }

    int undo() {
        if (acts.isEmpty()) return STATE;
        now = acts.removeLast();
        return acts.size();
    }

    int task(int t, int what) {
        Task task = task(t);
        if (task == null || what < 0 || what > 7) return BAD;
        int bits = 0;
        for (Task child : now.children(task, How.RUNNING, How.CLOSING)) bits += 1 << child.number;
        return switch (what) {
            case 0 -> task.parent < 0 ? NONE : task.parent;
            case 1 -> task.how.ordinal();
            case 2 -> task.out == null ? NONE : task.out.ordinal();
            case 3 -> task.behind;
            case 4 -> task.due == null ? NONE : task.due;
            case 5 -> task.asked ? 1 : 0;
            case 6 -> task.list.size();
            default -> bits;
        };
    }

    int failure(int t, int k) {
        Task task = task(t);
        if (task == null || k < 0) return BAD;
        return k < task.list.size() ? task.list.get(k) : NONE;
    }

    int trace(int k, int what) {
        if (k < 0 || what < 0 || what > 2) return BAD;
        if (k >= now.trace.size()) return NONE;
        Event event = now.trace.get(k);
        return what == 0 ? event.tick() : what == 1 ? event.task() : event.what();
    }

    int ends(int t, int what) {
        if (task(t) == null || what < 0 || what > 1) return BAD;
        Task then = now.copy().after(200).tasks.get(t);
        if (then.ended == null) return NONE;
        return what == 0 ? then.ended : then.out.ordinal();
    }

    private World with(int t, int deadline) {
        World world = now.fromTheBeginning();
        world.tasks.get(t).deadline = deadline;
        return world.begin();
    }

    int wellBy() {
        for (int deadline = 1; deadline <= 60; deadline++) {
            Task root = with(0, deadline).after(200).root();
            if (root.ended != null && root.out == Out.WELL) return deadline;
        }
        return NONE;
    }

    int spares(int t) {
        Task task = task(t);
        if (task == null || task.how != How.RUNNING) return NO;
        Integer without = now.copy().after(200).root().ended;
        World asked = now.copy();
        asked.tasks.get(t).asked = true;
        Integer with = asked.after(200).root().ended;
        return with == null || without == null ? NO : without - with;
    }

    int sees(int t, int n, int ended) {
        if (task(t) == null || n < 1 || n > 60 || ended < 0 || ended > 1) return BAD;
        if (seen.size() == 6) return FULL;
        seen.add(new Seen(t, n, ended == 1));
        return seen.size();
    }

    int forget() {
        int was = seen.size();
        seen.clear();
        return was;
    }

    int fits(int t) {
        if (task(t) == null) return BAD;
        int bits = 0;
        for (int deadline = 1; deadline <= 30; deadline++) {
            boolean fits = true;
            for (Seen one : seen) {
                How how = with(t, deadline).after(one.ticks()).tasks.get(one.task()).how;
                fits &= (how == How.ENDED) == one.ended();
            }
            if (fits) bits += 1 << deadline;
        }
        return bits;
    }

    int keep(int image) {
        if (image != 0 && image != 1) return BAD;
        images[image] = now.copy();
        return now.tick;
    }

    int back(int image) {
        if (image != 0 && image != 1) return BAD;
        if (images[image] == null) return STATE;
        now = images[image].copy();
        acts.clear();
        return now.tick;
    }

    int count(int what) {
        int[] hows = new int[4];
        for (Task task : now.tasks) hows[task.how.ordinal()]++;
        return switch (what) {
            case 0 -> now.tasks.size();
            case 1 -> now.tick;
            case 2 -> hows[1];
            case 3 -> hows[2];
            case 4 -> hows[3];
            case 5 -> now.trace.size();
            case 6 -> seen.size();
            case 7 -> text.length();
            case 8 -> acts.size();
            default -> BAD;
        };
    }
}
