import java.io.File;
import java.lang.reflect.Method;
import java.lang.reflect.Modifier;
import java.nio.file.Files;
import java.nio.file.Path;
import java.util.Arrays;
import java.util.regex.Matcher;
import java.util.regex.Pattern;

/** README.md, seen from the project's folder: its example answers as it says, and it names each call and each test. */
public final class ReadmeTest {
    private static final Check CHECK = new Check("ReadmeTest");
    private static final Pattern TEXT = Pattern.compile("String text = \"(.*)\";");
    private static final Pattern CALL = Pattern.compile("(?m)^x\\.(\\w+)\\((.*?)\\); *// (-?\\d+)");
    private static final int LEAST_CALLS = 10;

    public static void main(String[] args) throws Exception {
        String page = Files.readString(Path.of("README.md"));
        example(page);
        for (Method method : ScopeTasks.class.getDeclaredMethods()) {
            if (Modifier.isPublic(method.getModifiers())) names(page, "`" + method.getName() + "(");
        }
        for (File file : new File("src/test/java").listFiles()) {
            if (file.getName().endsWith("Test.java")) names(page, " " + file.getName().replace(".java", ""));
        }
        CHECK.end();
    }

    private static void names(String page, String what) {
        CHECK.due("README.md names " + what, page.contains(what) ? 1 : 0, 1);
    }

    private static void example(String page) throws Exception {
        Matcher text = TEXT.matcher(page);
        CHECK.due("README.md tells a text", text.find() ? 1 : 0, 1);
        ScopeTasks x = new ScopeTasks();
        Check.write(x, text.group(1));
        Matcher calls = CALL.matcher(page);
        int found = 0;
        while (calls.find()) {
            int[] numbers = calls.group(2).isEmpty() ? new int[0]
                : Arrays.stream(calls.group(2).split(", ")).mapToInt(Integer::parseInt).toArray();
            CHECK.due(calls.group(), answer(x, calls.group(1), numbers), Integer.parseInt(calls.group(3)));
            found++;
        }
        CHECK.due("calls of the example, at least " + LEAST_CALLS, Math.min(found, LEAST_CALLS), LEAST_CALLS);
    }

    private static int answer(ScopeTasks x, String call, int[] numbers) throws Exception {
        Class<?>[] kinds = new Class<?>[numbers.length];
        Arrays.fill(kinds, int.class);
        Object[] values = Arrays.stream(numbers).boxed().toArray();
        return (int) ScopeTasks.class.getMethod(call, kinds).invoke(x, values);
    }
}
