import java.nio.file.Files;
import java.nio.file.Path;
import java.util.regex.Matcher;
import java.util.regex.Pattern;

/** Rules of LANGUAGE.md that can be seen in the source, seen from the project's folder. */
public final class LanguageTest {
    private static final String[] NEVER = {
        "\\bimport (?!java\\.util\\.(ArrayList|List|Arrays|Iterator);)", "\\bpackage\\b", "\\bthrow\\b", "\\bthrows\\b", "\\btry\\b",
        "\\bcatch\\b", "\\bsynchronized\\b", "\\bassert\\b", "(?m)^(?!\\s*(case|default)\\b).*->", "::", "Exact\\b",
        "\\bhashCode\\b", "\\bprotected\\b", "\\bSystem\\.(?!arraycopy)", "\\bThread\\b", "\\bRandom\\b", "\\bvolatile\\b",
        "\\bnative\\b", "static \\{", "static int \\w+ =",
    };

    public static void main(String[] args) throws Exception {
        Check check = new Check("LanguageTest");
        String source = Files.readString(Path.of("src/main/java/ScopeTasks.java"));
        for (int i = 0; i < source.length(); i++) {
            if (source.charAt(i) > 126) check.due("a sign at " + i, source.charAt(i), 126);
        }
        String bare = source.replaceAll("(?s)/\\*.*?\\*/", "").replaceAll("//[^\n]*", "");
        for (String word : NEVER) {
            Matcher found = Pattern.compile(word).matcher(bare);
            check.due("the source has " + word, found.find() ? 1 : 0, 0);
        }
        check.due("classes inside: at most twelve", Math.max(12, bare.split("\\bclass ").length - 2), 12);
        longestMethod(check, bare);
        check.end();
    }

    private static void longestMethod(Check check, String bare) {
        Matcher heads = Pattern.compile("(?m)^( {4}| {8})(?! |if |for |while |switch )[\\w\\[\\] ]+\\(([^)]*)\\) \\{$").matcher(bare);
        while (heads.find()) {
            String name = heads.group().trim();
            int close = bare.indexOf("\n" + heads.group(1) + "}", heads.end());
            int lines = bare.substring(heads.start(), close).split("\n").length;
            check.due("lines of " + name + " (at most 60)", Math.max(60, lines), 60);
            int parameters = heads.group(2).isEmpty() ? 0 : heads.group(2).split(",").length;
            check.due("parameters of " + name + " (at most 7)", Math.max(7, parameters), 7);
        }
    }
}
