import java.lang.reflect.Field;
import java.lang.reflect.Modifier;
import java.nio.file.Files;
import java.nio.file.Path;
import java.util.ArrayList;
import java.util.LinkedHashMap;
import java.util.List;
import java.util.Map;
import java.util.regex.Matcher;
import java.util.regex.Pattern;

/** Rules of LANGUAGE.md that can be seen in the source or in the class, from the project's folder. */
public final class LanguageTest {
    private static final Check CHECK = new Check("LanguageTest");
    private static final String[] NEVER = {
        "\\bimport (?!java\\.util\\.(ArrayList|List|Arrays|Iterator);)", "\\bpackage\\b", "\\bthrow\\b", "\\bthrows\\b", "\\btry\\b",
        "\\bcatch\\b", "\\bsynchronized\\b", "\\bassert\\b", "(?m)^(?!\\s*(case|default)\\b).*->", "::", "Exact\\b",
        "\\bhashCode\\b", "\\bprotected\\b", "\\bSystem\\.(?!arraycopy)", "\\bThread\\b", "\\bRandom\\b", "\\bvolatile\\b",
        "\\bnative\\b", "static \\{", "static int \\w+ =", "\\bObject\\b", "\\bHashMap\\b", "\\[\\]\\[\\]\\[\\]", "while \\(true\\)",
        "for \\(;",
    };
    private static final Pattern HEAD =
        Pattern.compile("(?m)^( {4}| {8})(?! |if |for |while |switch )(?:[\\w\\[\\]]+ )*(\\w+)\\(([^)]*)\\) \\{$");
    private static final Pattern CALL = Pattern.compile("(Math\\.|System\\.)?\\b(\\w+)\\(");
    private static final int DEEPEST = 8, MOST_LINES = 60, MOST_PARAMETERS = 7, MOST_CLASSES = 12, MOST_FIELDS = 20;

    /** The bodies of the methods by their names; methods of one name in several classes are looked at as one. */
    private static final Map<String, List<String>> BODIES = new LinkedHashMap<>();

    public static void main(String[] args) throws Exception {
        String source = Files.readString(Path.of("src/main/java/ScopeTasks.java"));
        for (int i = 0; i < source.length(); i++) {
            if (source.charAt(i) > 126) CHECK.due("a sign at " + i, source.charAt(i), 126);
        }
        String bare = source.replaceAll("(?s)/\\*.*?\\*/", "").replaceAll("//[^\n]*", "");
        for (String word : NEVER) {
            CHECK.due("the source has " + word, Pattern.compile(word).matcher(bare).find() ? 1 : 0, 0);
        }
        methods(bare);
        for (String name : BODIES.keySet()) {
            atMost("calls that stand open from " + name, depthOf(name, 1), DEEPEST);
        }
        classes();
        CHECK.end();
    }

    private static void atMost(String what, int found, int most) {
        CHECK.due(what + " (at most " + most + ")", Math.max(most, found), most);
    }

    private static void methods(String bare) {
        Matcher heads = HEAD.matcher(bare);
        while (heads.find()) {
            String name = heads.group(2);
            int close = bare.indexOf("\n" + heads.group(1) + "}", heads.end());
            String body = bare.substring(heads.end(), close);
            atMost("lines of " + name, body.split("\n").length + 1, MOST_LINES);
            atMost("parameters of " + name, heads.group(3).isEmpty() ? 0 : heads.group(3).split(",").length, MOST_PARAMETERS);
            boolean constructor = Character.isUpperCase(name.charAt(0));
            // Calls that make nothing can't fill the room, however many there are.
            if (!constructor) CHECK.due(name + " makes an object", body.matches("(?s).*\\bnew\\b.*") ? 1 : 0, 0);
            BODIES.computeIfAbsent(name, unused -> new ArrayList<>()).add(body);
        }
        CHECK.due("the calls are found in the source", BODIES.containsKey("tree") && BODIES.containsKey("count") ? 1 : 0, 1);
    }

    /** How many calls stand open at most, this one counted; a call that comes to itself goes beyond any bound. */
    private static int depthOf(String name, int open) {
        int deepest = 1;
        if (open > DEEPEST) return deepest;
        for (String body : BODIES.getOrDefault(name, List.of())) {
            Matcher calls = CALL.matcher(body);
            while (calls.find()) {
                boolean library = calls.group(1) != null;
                if (library) deepest = Math.max(deepest, 2);
                else if (BODIES.containsKey(calls.group(2))) deepest = Math.max(deepest, 1 + depthOf(calls.group(2), open + 1));
            }
        }
        return deepest;
    }

    private static void classes() {
        List<Class<?>> all = new ArrayList<>(List.of(ScopeTasks.class.getDeclaredClasses()));
        for (Class<?> inside : all) {
            int modifiers = inside.getModifiers();
            CHECK.due(inside.getName() + " is static", Modifier.isStatic(modifiers) ? 1 : 0, 1);
            CHECK.due(inside.getName() + " is seen outside", Modifier.isPublic(modifiers) || Modifier.isProtected(modifiers) ? 1 : 0, 0);
        }
        all.add(ScopeTasks.class);
        atMost("classes", all.size(), MOST_CLASSES);
        for (Class<?> one : all) {
            int fields = 0;
            for (Field field : one.getDeclaredFields()) {
                if (!Modifier.isStatic(field.getModifiers())) fields++;
                else CHECK.due(one.getName() + "." + field.getName() + " is final", Modifier.isFinal(field.getModifiers()) ? 1 : 0, 1);
            }
            atMost("fields of " + one.getName(), fields, MOST_FIELDS);
        }
    }
}
