import java.lang.reflect.Constructor;
import java.lang.reflect.Field;
import java.lang.reflect.Method;
import java.lang.reflect.Modifier;
import java.util.TreeSet;

/** The public face, and promise 1. */
public final class FaceTest {
    public static void main(String[] args) {
        Check check = new Check("FaceTest");
        constants(check);
        members(check);
        newObject(check);
        check.end();
    }

    private static void constants(Check check) {
        check.due("BAD", ScopeTasks.BAD, -1);
        check.due("STATE", ScopeTasks.STATE, -2);
        check.due("FULL", ScopeTasks.FULL, -3);
        check.due("NONE", ScopeTasks.NONE, -9);
        check.due("NO", ScopeTasks.NO, -1000000);
    }

    private static void members(Check check) {
        check.due("modifiers", ScopeTasks.class.getModifiers(), Modifier.PUBLIC | Modifier.FINAL);
        TreeSet<String> seen = new TreeSet<>();
        for (Field f : ScopeTasks.class.getDeclaredFields()) {
            if (!Modifier.isPrivate(f.getModifiers()) && !f.isSynthetic()) seen.add(f.getName());
        }
        check.due("fields", seen.toString(), "[BAD, FULL, NO, NONE, STATE]");
        seen.clear();
        int constructors = 0;
        for (Constructor<?> c : ScopeTasks.class.getDeclaredConstructors()) {
            constructors += Modifier.isPublic(c.getModifiers()) && c.getParameterCount() == 0 ? 1 : 100;
        }
        check.due("constructors", constructors, 1);
        TreeSet<String> hidden = new TreeSet<>();
        for (Method m : ScopeTasks.class.getDeclaredMethods()) {
            if (m.isSynthetic()) continue;
            if (Modifier.isPrivate(m.getModifiers())) hidden.add(m.getName());
            else seen.add(m.getName() + m.getParameterCount() + m.getReturnType());
        }
        check.due("methods", seen.toString(), "[asks1int, back1int, clear0int, count1int, ends2int, failure2int, fits1int,"
            + " forget0int, keep1int, sees3int, spares1int, task2int, ticks1int, trace2int, tree0int, type1int, undo0int,"
            + " wellBy0int]");
        for (String name : hidden) {
            check.due("private methods named as a public one, " + name, seen.toString().matches(".*[ \\[]" + name
                + "\\dint.*") ? 1 : 0, 0);
        }
    }

    private static void newObject(Check check) {
        ScopeTasks x = new ScopeTasks();
        int[] counts = {1, 0, 1, 0, 0, 0, 0, 0, 0};
        for (int what = 0; what < counts.length; what++) {
            check.due("count(" + what + ") of a new object", x.count(what), counts[what]);
        }
        int[] root = {-9, 1, -9, 0, -9, 0, 0, 0};
        for (int what = 0; what < root.length; what++) {
            check.due("task(0, " + what + ") of a new object", x.task(0, what), root[what]);
        }
        check.due("task(1, 0) of a new object", x.task(1, 0), -1);
        check.due("back(0) of a new object", x.back(0), -2);
        check.due("back(1) of a new object", x.back(1), -2);
        check.due("undo() of a new object", x.undo(), -2);
        check.due("ticks(12) of a new object", x.ticks(12), 1);
        check.due("trace of a new object", Check.trace(x), "1:0:1 1:0:2");
        check.due("task(0, 2) of a new object", x.task(0, 2), 0);
    }
}
