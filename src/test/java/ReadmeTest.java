import java.io.IOException;
import java.lang.reflect.InvocationTargetException;
import java.lang.reflect.Method;
import java.nio.file.Files;
import java.nio.file.Path;
import java.util.Arrays;
import java.util.List;
import java.util.regex.Matcher;
import java.util.regex.Pattern;
import java.util.stream.Stream;

/** README.md's example answers what it says behind each call, and each test is named there. */
public final class ReadmeTest {
    /** A call, and the first word behind it: its answer, or the name of its exception. */
    private static final Pattern CALL = Pattern.compile("store\\.(\\w+)\\((.*)\\); +// ([-.\\w]+).*");
    private static final int LEAST_CALLS = 25;

    private static final Checks checks = new Checks("ReadmeTest");

    public static void main(String[] args) throws IOException {
        Path root = Path.of(System.getProperty("root", "."));
        List<String> lines = Files.readAllLines(root.resolve("README.md"));
        followExample(lines);
        lookForTests(String.join("\n", lines), root.resolve("src/test/java"));
        checks.finish();
    }

    private static void followExample(List<String> lines) {
        checks.start("the example");
        Bitmapstore store = new Bitmapstore();
        List<String> calls = lines.stream().filter(line -> line.startsWith("store.")).toList();
        checks.due("there is an example", calls.size() >= LEAST_CALLS, true);
        for (String line : calls) {
            Matcher call = CALL.matcher(line);
            boolean isCall = call.matches();
            checks.due("a call and its answer: " + line, isCall, true);
            if (isCall) {
                checks.dueText(line, answer(store, call.group(1), call.group(2)), call.group(3));
            }
        }
    }

    private static String answer(Bitmapstore store, String name, String arguments) {
        Method method = Arrays.stream(Bitmapstore.class.getMethods())
                .filter(one -> one.getName().equals(name)).findFirst().orElseThrow();
        Object[] values = Arrays.stream(arguments.split(", *")).filter(text -> !text.isEmpty())
                .map(ReadmeTest::value).toArray();
        try {
            return String.valueOf(method.invoke(store, values));
        } catch (InvocationTargetException e) {
            return e.getCause().getClass().getSimpleName();
        } catch (IllegalAccessException e) {
            throw new IllegalStateException(e);
        }
    }

    private static Object value(String text) {
        if (text.equals("true") || text.equals("false")) {
            return Boolean.valueOf(text);
        }
        if (!text.startsWith("Bitmapstore.")) {
            return Integer.valueOf(text);
        }
        try {
            return Bitmapstore.class.getField(text.substring("Bitmapstore.".length())).get(null);
        } catch (ReflectiveOperationException e) {
            throw new IllegalStateException(e);
        }
    }

    private static void lookForTests(String text, Path tests) throws IOException {
        checks.start("how to run the tests");
        checks.due("the script", text.contains(".ci/run"), true);
        try (Stream<Path> files = Files.list(tests)) {
            for (Path file : files.toList()) {
                String name = file.getFileName().toString();
                checks.due(name + " is named", text.contains(name + "`"), true);
            }
        }
    }
}
