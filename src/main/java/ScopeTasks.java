/**
 * A runtime of tasks that never outlive those who began them. The document (DOC.md) says what each call answers;
 * the words in capitals there are the names used here.
 */
public final class ScopeTasks {
    public static final int BAD = -1, STATE = -2, FULL = -3, NONE = -9;
    public static final int NO = -1000000;

    private static final int MOST_TASKS = 8, MOST_OPERATIONS = 6, MOST_LETTERS = 120, MOST_CODES = 8;
    private static final int MOST_EVENTS = 60, MOST_UNDONE = 12, MOST_SEEN = 6, IMAGES = 2;
    private static final int MOST_TICKS_A_CALL = 12, LAST_TICK = 999, FORESIGHT = 200;
    private static final int LONGEST_DEADLINE = 60, LONGEST_UNKNOWN = 30, LONGEST_SEEN = 60;
    private static final int NO_DEADLINE = 99, NEVER = 1000000, LATE_CODE = 10;

    private static final int UNBEGUN = 0, RUNNING = 1, CLOSING = 2, ENDED = 3;
    private static final int WELL = 0, FAILED = 1, CANCELLED = 2, LATE = 3;
    private static final int EVENT_BEGUN = 0, EVENT_CLOSES = 1, EVENT_ENDED = 2;

    private final Tokens text = new Tokens();
    private final Plan told = new Plan();
    private final Plan draft = new Plan();
    private final Plan supposed = new Plan();
    private final Reader reader = new Reader(text, draft);
    private final Run now = new Run(told);
    private final Run trial = new Run(told);
    private final History history = new History(told);
    private final Run[] images = new Run[IMAGES];
    private final boolean[] kept = new boolean[IMAGES];
    private final int[] seenTask = new int[MOST_SEEN];
    private final int[] seenTicks = new int[MOST_SEEN];
    private final int[] seenEnded = new int[MOST_SEEN];
    private int seen = 0;

    public ScopeTasks() {
        for (int i = 0; i < IMAGES; i++) {
            images[i] = new Run(told);
        }
    }

    // ---- what is told

    public int type(int letter) {
        if (letter < 0 || letter > 255) {
            return BAD;
        }
        return text.append(letter) ? text.length : FULL;
    }

    public int clear() {
        int had = text.length;
        text.length = 0;
        return had;
    }

    public int tree() {
        if (!reader.readAll()) {
            return -10 - text.start;
        }
        told.copyFrom(draft);
        text.length = 0;
        now.restart(told);
        history.size = 0;
        seen = 0;
        for (int i = 0; i < IMAGES; i++) {
            kept[i] = false;
        }
        return reader.items;
    }

    // ---- what is done

    public int ticks(int n) {
        if (n < 1 || n > MOST_TICKS_A_CALL) {
            return BAD;
        }
        if (now.how[0] == ENDED) {
            return STATE;
        }
        if (now.tick + n > LAST_TICK) {
            return FULL;
        }
        for (int i = 0; i < n && now.how[0] != ENDED; i++) {
            history.remember(now);
            now.passTick();
        }
        return now.tick;
    }

    public int asks(int t) {
        if (!isTask(t)) {
            return BAD;
        }
        if (now.how[t] != RUNNING || now.asked[t] == 1) {
            return STATE;
        }
        history.remember(now);
        now.asked[t] = 1;
        return now.behind[t];
    }

    public int undo() {
        return history.restore(now) ? history.size : STATE;
    }

    // ---- how things are

    public int task(int t, int what) {
        if (!isTask(t)) {
            return BAD;
        }
        switch (what) {
            case 0: return told.parent[t];
            case 1: return now.how[t];
            case 2: return now.out[t];
            case 3: return now.behind[t];
            case 4: return now.due[t] == NEVER ? NONE : now.due[t];
            case 5: return now.asked[t];
            case 6: return now.codes[t];
            case 7: return now.activeChildren(t);
            default: return BAD;
        }
    }

    public int failure(int t, int k) {
        if (!isTask(t) || k < 0) {
            return BAD;
        }
        return k < now.codes[t] ? now.list[t * MOST_CODES + k] : NONE;
    }

    public int trace(int k, int what) {
        if (k < 0 || what < 0 || what > 2) {
            return BAD;
        }
        if (k >= now.events) {
            return NONE;
        }
        if (what == 0) {
            return now.eventTick[k];
        }
        return what == 1 ? now.eventTask[k] : now.eventKind[k];
    }

    // ---- what comes

    public int ends(int t, int what) {
        if (!isTask(t) || what < 0 || what > 1) {
            return BAD;
        }
        trial.copyFrom(now);
        if (!trial.passUntilEnded(t, FORESIGHT)) {
            return NONE;
        }
        return what == 0 ? trial.endedAt[t] : trial.out[t];
    }

    public int wellBy() {
        for (int deadline = 1; deadline <= LONGEST_DEADLINE; deadline++) {
            suppose(0, deadline);
            if (trial.passUntilEnded(0, FORESIGHT) && trial.out[0] == WELL) {
                return deadline;
            }
        }
        return NONE;
    }

    public int spares(int t) {
        if (!isTask(t) || now.how[t] != RUNNING) {
            return NO;
        }
        trial.copyFrom(now);
        if (!trial.passUntilEnded(0, FORESIGHT)) {
            return NO;
        }
        int unasked = trial.endedAt[0];
        trial.copyFrom(now);
        trial.asked[t] = 1;
        if (!trial.passUntilEnded(0, FORESIGHT)) {
            return NO;
        }
        return unasked - trial.endedAt[0];
    }

    // ---- which deadline

    public int sees(int t, int n, int ended) {
        if (!isTask(t) || n < 1 || n > LONGEST_SEEN || ended < 0 || ended > 1) {
            return BAD;
        }
        if (seen >= MOST_SEEN) {
            return FULL;
        }
        seenTask[seen] = t;
        seenTicks[seen] = n;
        seenEnded[seen] = ended;
        seen++;
        return seen;
    }

    public int forget() {
        int was = seen;
        seen = 0;
        return was;
    }

    public int fits(int t) {
        if (!isTask(t)) {
            return BAD;
        }
        int longest = longestSeen();
        int bits = 0;
        for (int deadline = 1; deadline <= LONGEST_UNKNOWN; deadline++) {
            suppose(t, deadline);
            trial.passUntilEnded(0, longest);
            if (agreesWithSeen()) {
                bits |= 1 << deadline;
            }
        }
        return bits;
    }

    // ---- images

    public int keep(int image) {
        if (image < 0 || image >= IMAGES) {
            return BAD;
        }
        images[image].copyFrom(now);
        kept[image] = true;
        return now.tick;
    }

    public int back(int image) {
        if (image < 0 || image >= IMAGES) {
            return BAD;
        }
        if (!kept[image]) {
            return STATE;
        }
        now.copyFrom(images[image]);
        history.size = 0;
        return now.tick;
    }

    public int count(int what) {
        switch (what) {
            case 0: return told.tasks;
            case 1: return now.tick;
            case 2: return now.countThatAre(RUNNING);
            case 3: return now.countThatAre(CLOSING);
            case 4: return now.countThatAre(ENDED);
            case 5: return now.events;
            case 6: return seen;
            case 7: return text.length;
            case 8: return history.size;
            default: return BAD;
        }
    }

    // ---- helpers of the calls

    private boolean isTask(int t) {
        return t >= 0 && t < told.tasks;
    }

    /** The trial stands at the beginning of what was told, but for one DEADLINE. */
    private void suppose(int t, int deadline) {
        supposed.copyFrom(told);
        supposed.deadline[t] = deadline;
        trial.restart(supposed);
    }

    private int longestSeen() {
        int longest = 0;
        for (int i = 0; i < seen; i++) {
            longest = Math.max(longest, seenTicks[i]);
        }
        return longest;
    }

    private boolean agreesWithSeen() {
        for (int i = 0; i < seen; i++) {
            int ended = trial.hadEndedBy(seenTask[i], seenTicks[i]) ? 1 : 0;
            if (ended != seenEnded[i]) {
                return false;
            }
        }
        return true;
    }

    /** What the text tells; nothing of it changes while TICKS go by. */
    private static final class Plan {
        int tasks = 0;
        final int[] parent = new int[MOST_TASKS];
        final int[] operations = new int[MOST_TASKS];
        final int[] operation = new int[MOST_TASKS * MOST_OPERATIONS];
        final int[] number = new int[MOST_TASKS * MOST_OPERATIONS];
        final int[] deadline = new int[MOST_TASKS];
        final int[] shield = new int[MOST_TASKS];
        final int[] cleanUp = new int[MOST_TASKS];
        final int[] gathers = new int[MOST_TASKS];

        Plan() {
            tellAnew();
        }

        /** A ROOT without OPERATIONS, and nothing else. */
        void tellAnew() {
            tasks = 0;
            addTask(NONE);
        }

        /** The number of the new TASK; NONE if there is no room for it. */
        int addTask(int itsParent) {
            if (tasks >= MOST_TASKS) {
                return NONE;
            }
            int t = tasks;
            tasks++;
            parent[t] = itsParent;
            operations[t] = 0;
            deadline[t] = NO_DEADLINE;
            shield[t] = 0;
            cleanUp[t] = 0;
            gathers[t] = 0;
            return t;
        }

        boolean addOperation(int t, int kind, int itsNumber) {
            if (t < 0 || t >= tasks || operations[t] >= MOST_OPERATIONS) {
                return false;
            }
            int at = t * MOST_OPERATIONS + operations[t];
            operation[at] = kind;
            number[at] = itsNumber;
            operations[t]++;
            return true;
        }

        void copyFrom(Plan other) {
            tasks = other.tasks;
            System.arraycopy(other.parent, 0, parent, 0, MOST_TASKS);
            System.arraycopy(other.operations, 0, operations, 0, MOST_TASKS);
            System.arraycopy(other.operation, 0, operation, 0, MOST_TASKS * MOST_OPERATIONS);
            System.arraycopy(other.number, 0, number, 0, MOST_TASKS * MOST_OPERATIONS);
            System.arraycopy(other.deadline, 0, deadline, 0, MOST_TASKS);
            System.arraycopy(other.shield, 0, shield, 0, MOST_TASKS);
            System.arraycopy(other.cleanUp, 0, cleanUp, 0, MOST_TASKS);
            System.arraycopy(other.gathers, 0, gathers, 0, MOST_TASKS);
        }
    }

    /** THE TEXT, and the TOKEN that the reading has come to. */
    private static final class Tokens {
        // Letters are 0 .. 255, so what is no letter is told by numbers below 0.
        static final int END = -1, NUMBER = -2, NO_TOKEN = -3;
        static final int BLANK = 32;
        // Any NUMBER above 99 is held as this one, so that no row of digits is too long to be read.
        static final int TOO_MUCH = 100;

        final int[] letters = new int[MOST_LETTERS];
        int length = 0;
        int kind = END;
        int value = 0;
        int start = 0;
        int next = 0;

        boolean append(int letter) {
            if (length >= MOST_LETTERS) {
                return false;
            }
            letters[length] = letter;
            length++;
            return true;
        }

        void goToFirst() {
            next = 0;
            advance();
        }

        void advance() {
            while (next < length && letters[next] == BLANK) {
                next++;
            }
            start = next;
            value = 0;
            while (next < length && letters[next] >= '0' && letters[next] <= '9') {
                value = Math.min(value * 10 + letters[next] - '0', TOO_MUCH);
                next++;
            }
            if (next > start) {
                boolean zeroAhead = letters[start] == '0' && next - start > 1;
                kind = zeroAhead || value >= TOO_MUCH ? NO_TOKEN : NUMBER;
            } else if (next >= length) {
                kind = END;
            } else {
                kind = letters[next];
                next++;
            }
        }

        boolean isNumberWithin(int least, int most) {
            return kind == NUMBER && value >= least && value <= most;
        }
    }

    /**
     * Reads the ITEMS into a plan. It never goes beyond a TOKEN that can't stand where it is, so where reading fails,
     * FAULT is the start of the TOKEN that it has come to.
     */
    private static final class Reader {
        final Tokens tokens;
        final Plan plan;
        int items = 0;

        Reader(Tokens tokens, Plan plan) {
            this.tokens = tokens;
            this.plan = plan;
        }

        boolean readAll() {
            items = 0;
            plan.tellAnew();
            tokens.goToFirst();
            for (int i = 0; i < MOST_LETTERS && tokens.kind != Tokens.END; i++) {
                if (!readItem()) {
                    return false;
                }
                items++;
            }
            return true;
        }

        private boolean readItem() {
            if ((tokens.kind == 'r') != (items == 0)) {
                return false;
            }
            switch (tokens.kind) {
                case 'r': return readRoot();
                case 't': return readTask();
                case 'd': return readSetting(plan.deadline, 1, LONGEST_DEADLINE);
                case 's': return readSetting(plan.shield, 0, MOST_OPERATIONS);
                case 'c': return readSetting(plan.cleanUp, 0, 5);
                case 'g': return readGathers();
                default: return false;
            }
        }

        private boolean readRoot() {
            tokens.advance();
            return readOperations(0);
        }

        private boolean readTask() {
            if (plan.tasks >= MOST_TASKS) {
                return false;
            }
            tokens.advance();
            if (!isTaskTold()) {
                return false;
            }
            int t = plan.addTask(tokens.value);
            tokens.advance();
            return readOperations(t);
        }

        private boolean readSetting(int[] settings, int least, int most) {
            tokens.advance();
            if (!isTaskTold()) {
                return false;
            }
            int t = tokens.value;
            tokens.advance();
            if (!tokens.isNumberWithin(least, most)) {
                return false;
            }
            settings[t] = tokens.value;
            tokens.advance();
            return readEnd();
        }

        private boolean readGathers() {
            tokens.advance();
            if (!isTaskTold() || plan.gathers[tokens.value] == 1) {
                return false;
            }
            plan.gathers[tokens.value] = 1;
            tokens.advance();
            return readEnd();
        }

        private boolean readOperations(int t) {
            for (int i = 0; i < MOST_OPERATIONS && tokens.kind != ';'; i++) {
                if (!readOperation(t)) {
                    return false;
                }
            }
            return readEnd();
        }

        private boolean readOperation(int t) {
            int kind = tokens.kind;
            int number = 0;
            if (kind == 'w' || kind == 'f') {
                tokens.advance();
                if (!tokens.isNumberWithin(1, 9)) {
                    return false;
                }
                number = tokens.value;
            } else if (kind != 'b' && kind != 'j' && kind != 'x') {
                return false;
            }
            tokens.advance();
            return plan.addOperation(t, kind, number);
        }

        private boolean readEnd() {
            if (tokens.kind != ';') {
                return false;
            }
            tokens.advance();
            return true;
        }

        private boolean isTaskTold() {
            return tokens.isNumberWithin(0, plan.tasks - 1);
        }
    }

    /** How the TASKS of a plan are at a TICK, with their TRACE. */
    private static final class Run {
        Plan plan;
        int tick = 0;
        final int[] how = new int[MOST_TASKS];
        final int[] out = new int[MOST_TASKS];
        final int[] begunAt = new int[MOST_TASKS];
        final int[] endedAt = new int[MOST_TASKS];
        final int[] due = new int[MOST_TASKS];
        final int[] behind = new int[MOST_TASKS];
        final int[] worked = new int[MOST_TASKS];
        final int[] cleaned = new int[MOST_TASKS];
        final int[] asked = new int[MOST_TASKS];
        final int[] codes = new int[MOST_TASKS];
        final int[] list = new int[MOST_TASKS * MOST_CODES];
        int events = 0;
        final int[] eventTick = new int[MOST_EVENTS];
        final int[] eventTask = new int[MOST_EVENTS];
        final int[] eventKind = new int[MOST_EVENTS];

        Run(Plan itsPlan) {
            restart(itsPlan);
        }

        /** The beginning of a plan: its ROOT is RUNNING. */
        void restart(Plan itsPlan) {
            plan = itsPlan;
            tick = 0;
            events = 0;
            for (int t = 0; t < MOST_TASKS; t++) {
                how[t] = UNBEGUN;
                out[t] = NONE;
                begunAt[t] = 0;
                endedAt[t] = 0;
                due[t] = NEVER;
                behind[t] = 0;
                worked[t] = 0;
                cleaned[t] = 0;
                asked[t] = 0;
                codes[t] = 0;
            }
            start(0, NEVER);
        }

        void copyFrom(Run other) {
            plan = other.plan;
            tick = other.tick;
            events = other.events;
            System.arraycopy(other.how, 0, how, 0, MOST_TASKS);
            System.arraycopy(other.out, 0, out, 0, MOST_TASKS);
            System.arraycopy(other.begunAt, 0, begunAt, 0, MOST_TASKS);
            System.arraycopy(other.endedAt, 0, endedAt, 0, MOST_TASKS);
            System.arraycopy(other.due, 0, due, 0, MOST_TASKS);
            System.arraycopy(other.behind, 0, behind, 0, MOST_TASKS);
            System.arraycopy(other.worked, 0, worked, 0, MOST_TASKS);
            System.arraycopy(other.cleaned, 0, cleaned, 0, MOST_TASKS);
            System.arraycopy(other.asked, 0, asked, 0, MOST_TASKS);
            System.arraycopy(other.codes, 0, codes, 0, MOST_TASKS);
            System.arraycopy(other.list, 0, list, 0, MOST_TASKS * MOST_CODES);
            System.arraycopy(other.eventTick, 0, eventTick, 0, MOST_EVENTS);
            System.arraycopy(other.eventTask, 0, eventTask, 0, MOST_EVENTS);
            System.arraycopy(other.eventKind, 0, eventKind, 0, MOST_EVENTS);
        }

        /** Whether a TASK is ENDED within so many TICKS more; with the ROOT's end the TICKS are over. */
        boolean passUntilEnded(int t, int most) {
            for (int i = 0; i < most && how[t] != ENDED && how[0] != ENDED; i++) {
                passTick();
            }
            return how[t] == ENDED;
        }

        boolean hadEndedBy(int t, int atTick) {
            return how[t] == ENDED && endedAt[t] <= atTick;
        }

        int countThatAre(int state) {
            int found = 0;
            for (int t = 0; t < plan.tasks; t++) {
                if (how[t] == state) {
                    found++;
                }
            }
            return found;
        }

        /** The children that are RUNNING or CLOSING, as bits. */
        int activeChildren(int t) {
            int bits = 0;
            for (int child = t + 1; child < plan.tasks; child++) {
                if (plan.parent[child] == t && (how[child] == RUNNING || how[child] == CLOSING)) {
                    bits |= 1 << child;
                }
            }
            return bits;
        }

        void passTick() {
            tick++;
            for (int t = 0; t < plan.tasks; t++) {
                if (how[t] == RUNNING && tick > due[t]) {
                    addCode(t, LATE_CODE);
                    close(t, LATE);
                }
            }
            for (int t = 0; t < plan.tasks; t++) {
                if (how[t] == RUNNING && begunAt[t] < tick) {
                    goOn(t);
                }
            }
            for (int t = plan.tasks - 1; t >= 0; t--) {
                if (how[t] == CLOSING && activeChildren(t) == 0 && cleansUp(t)) {
                    end(t);
                }
            }
        }

        private void goOn(int t) {
            if (asked[t] == 1 && behind[t] >= plan.shield[t]) {
                close(t, CANCELLED);
            } else if (behind[t] >= plan.operations[t] || behind[t] >= MOST_OPERATIONS) {
                close(t, WELL);
            } else {
                int at = t * MOST_OPERATIONS + behind[t];
                operate(t, plan.operation[at], plan.number[at]);
            }
        }

        private void operate(int t, int operation, int number) {
            switch (operation) {
                case 'w':
                    work(t, number);
                    break;
                case 'b':
                    beginChild(t);
                    behind[t]++;
                    break;
                case 'j':
                    // All that were begun are ENDED when none of them is RUNNING or CLOSING.
                    if (activeChildren(t) == 0) {
                        behind[t]++;
                    }
                    break;
                case 'x':
                    askChildren(t);
                    behind[t]++;
                    break;
                default:
                    addCode(t, number);
                    close(t, FAILED);
                    break;
            }
        }

        private void work(int t, int inAll) {
            worked[t]++;
            if (worked[t] >= inAll) {
                worked[t] = 0;
                behind[t]++;
            }
        }

        private void beginChild(int t) {
            for (int child = t + 1; child < plan.tasks; child++) {
                if (plan.parent[child] == t && how[child] == UNBEGUN) {
                    start(child, due[t]);
                    note(child, EVENT_BEGUN);
                    return;
                }
            }
        }

        private void start(int t, int latestDue) {
            how[t] = RUNNING;
            begunAt[t] = tick;
            due[t] = latestDue;
            if (plan.deadline[t] != NO_DEADLINE) {
                due[t] = Math.min(latestDue, tick + plan.deadline[t]);
            }
        }

        private void askChildren(int t) {
            for (int child = t + 1; child < plan.tasks; child++) {
                if (plan.parent[child] == t && how[child] == RUNNING) {
                    asked[child] = 1;
                }
            }
        }

        private void close(int t, int outcome) {
            how[t] = CLOSING;
            out[t] = outcome == WELL && codes[t] > 0 ? FAILED : outcome;
            note(t, EVENT_CLOSES);
            if (out[t] != WELL) {
                askChildren(t);
            }
        }

        /** The CLEAN-UP goes on by one TICK, if it is not over: whether it is over then. */
        private boolean cleansUp(int t) {
            if (cleaned[t] < plan.cleanUp[t]) {
                cleaned[t]++;
            }
            return cleaned[t] >= plan.cleanUp[t];
        }

        private void end(int t) {
            how[t] = ENDED;
            endedAt[t] = tick;
            note(t, EVENT_ENDED);
            int above = plan.parent[t];
            if (above >= 0 && (out[t] == FAILED || out[t] == LATE)) {
                giveList(t, above);
                takeFailure(above);
            }
        }

        private void giveList(int t, int above) {
            for (int k = 0; k < codes[t] && k < MOST_CODES; k++) {
                addCode(above, list[t * MOST_CODES + k]);
            }
        }

        private void takeFailure(int t) {
            if (how[t] == RUNNING && plan.gathers[t] == 0) {
                close(t, FAILED);
            } else if (how[t] == CLOSING && out[t] == WELL) {
                out[t] = FAILED;
                askChildren(t);
            }
        }

        private void addCode(int t, int code) {
            if (codes[t] < MOST_CODES) {
                list[t * MOST_CODES + codes[t]] = code;
                codes[t]++;
            }
        }

        private void note(int t, int kind) {
            if (events < MOST_EVENTS) {
                eventTick[events] = tick;
                eventTask[events] = t;
                eventKind[events] = kind;
                events++;
            }
        }
    }

    /** What stood ahead of the latest acts; the rows go round, so the oldest is lost first. */
    private static final class History {
        final Run[] rows = new Run[MOST_UNDONE];
        int size = 0;
        int newest = 0;

        History(Plan plan) {
            for (int i = 0; i < MOST_UNDONE; i++) {
                rows[i] = new Run(plan);
            }
        }

        void remember(Run run) {
            newest = newest + 1 < MOST_UNDONE ? newest + 1 : 0;
            rows[newest].copyFrom(run);
            size = Math.min(size + 1, MOST_UNDONE);
        }

        boolean restore(Run run) {
            if (size == 0) {
                return false;
            }
            run.copyFrom(rows[newest]);
            newest = newest > 0 ? newest - 1 : MOST_UNDONE - 1;
            size--;
            return true;
        }
    }
}
