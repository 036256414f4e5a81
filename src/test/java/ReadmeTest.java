import java.io.IOException;
import java.lang.reflect.Method;
import java.lang.reflect.Modifier;
import java.nio.file.DirectoryStream;
import java.nio.file.Files;
import java.nio.file.Path;
import java.util.Arrays;
import java.util.HashMap;
import java.util.Map;
import java.util.regex.Matcher;
import java.util.regex.Pattern;

/** README.md: its example answers what it says, and it names every call and every test. */
public final class ReadmeTest {
    private static final Check CHECK = new Check("ReadmeTest");
    private static final Pattern LINE = Pattern.compile("(?m)^desk\\.((\\w+)\\(([^)]*)\\)); *// (-?\\d+): ");
    private static final Pattern ANY_LINE = Pattern.compile("(?m)^desk\\.");

    public static void main(String[] args) throws IOException, ReflectiveOperationException {
        String page = Files.readString(Path.of("README.md"));
        Map<String, Method> methods = new HashMap<>();
        for (Method method : BassButtons.class.getDeclaredMethods()) {
            if (method.getReturnType() == int.class && Modifier.isPublic(method.getModifiers())) {
                methods.put(method.getName(), method);
            }
        }
        example(page, methods);
        for (String name : methods.keySet()) {
            CHECK.due("README.md tells of " + name, page.contains("`" + name + "(") ? 1 : 0, 1);
        }
        tests(page);
        CHECK.end();
    }

    private static void example(String page, Map<String, Method> methods) throws ReflectiveOperationException {
        BassButtons desk = new BassButtons();
        Matcher line = LINE.matcher(page);
        long lines = 0;
        while (line.find()) {
            lines++;
            String[] words = line.group(3).isEmpty() ? new String[0] : line.group(3).split(", ");
            Object[] arguments = Arrays.stream(words).map(Integer::valueOf).toArray();
            int answer = (Integer) methods.get(line.group(2)).invoke(desk, arguments);
            CHECK.due("the example's " + line.group(1), answer, Integer.parseInt(line.group(4)));
        }
        CHECK.due("lines of the example that tell their answer", lines, ANY_LINE.matcher(page).results().count());
        CHECK.due("there is an example", lines > 0 ? 1 : 0, 1);
    }

    private static void tests(String page) throws IOException {
        try (DirectoryStream<Path> files = Files.newDirectoryStream(Path.of("src/test/java"), "*Test.java")) {
            for (Path file : files) {
                String name = file.getFileName().toString().replace(".java", "");
                CHECK.due("README.md tells of " + name, page.contains("| " + name + " |") ? 1 : 0, 1);
            }
        }
    }
}
