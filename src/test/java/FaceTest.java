import java.io.IOException;
import java.lang.reflect.Constructor;
import java.lang.reflect.Field;
import java.lang.reflect.Method;
import java.lang.reflect.Modifier;
import java.nio.file.Files;
import java.nio.file.Path;
import java.util.Map;
import java.util.TreeMap;
import java.util.regex.Matcher;
import java.util.regex.Pattern;

/** The public face, and those rules of LANGUAGE.md that can be seen without understanding the code. */
public final class FaceTest {
    private static final Check CHECK = new Check("FaceTest");
    private static final Map<String, Integer> PARAMETERS = new TreeMap<>(Map.ofEntries(
        Map.entry("system", 2), Map.entry("sound", 1), Map.entry("root", 1), Map.entry("rule", 2),
        Map.entry("beat", 4), Map.entry("alter", 5), Map.entry("drop", 0), Map.entry("of", 2),
        Map.entry("good", 2), Map.entry("button", 3), Map.entry("hand", 1), Map.entry("jumps", 0),
        Map.entry("sounds", 1), Map.entry("changed", 2), Map.entry("use", 1), Map.entry("bellows", 1),
        Map.entry("air", 1), Map.entry("cost", 0), Map.entry("wants", 0), Map.entry("many", 1),
        Map.entry("keep", 0), Map.entry("back", 0)));
    private static final Pattern FORBIDDEN = Pattern.compile(
        "\\b(throw|try|catch|synchronized|assert|import|package|protected|hashCode|\\w+Exact)\\b|->|::|[^\\x00-\\x7f]");

    public static void main(String[] args) throws IOException {
        constants();
        constructors();
        methods();
        fields();
        wordsOfTheSource();
        CHECK.end();
    }

    private static void constants() {
        CHECK.due("NUMBER", BassButtons.NUMBER, -1);
        CHECK.due("FULL", BassButtons.FULL, -2);
        CHECK.due("NONE", BassButtons.NONE, -3);
    }

    private static void constructors() {
        CHECK.due("public final class", Modifier.toString(BassButtons.class.getModifiers()).equals("public final") ? 1 : 0, 1);
        Constructor<?>[] all = BassButtons.class.getDeclaredConstructors();
        CHECK.due("one constructor", all.length, 1);
        CHECK.due("without parameters", all[0].getParameterCount(), 0);
        CHECK.due("public", Modifier.isPublic(all[0].getModifiers()) ? 1 : 0, 1);
    }

    private static void methods() {
        int met = 0;
        for (Method method : BassButtons.class.getDeclaredMethods()) {
            Integer parameters = PARAMETERS.get(method.getName());
            if (parameters == null) {
                CHECK.due(method.getName() + " is private", Modifier.isPrivate(method.getModifiers()) ? 1 : 0, 1);
                continue;
            }
            met++;
            CHECK.due(method.getName() + " parameters", method.getParameterCount(), parameters);
            CHECK.due(method.getName() + " is public", method.getModifiers(), Modifier.PUBLIC);
            CHECK.due(method.getName() + " answers int", method.getReturnType() == int.class ? 1 : 0, 1);
        }
        CHECK.due("all methods", met, PARAMETERS.size());
    }

    private static void fields() {
        int constants = 0;
        for (Field field : BassButtons.class.getDeclaredFields()) {
            if (Modifier.isPublic(field.getModifiers())) {
                constants++;
            } else {
                CHECK.due(field.getName() + " is private", Modifier.isPrivate(field.getModifiers()) ? 1 : 0, 1);
            }
            if (Modifier.isStatic(field.getModifiers())) {
                CHECK.due(field.getName() + " is final", Modifier.isFinal(field.getModifiers()) ? 1 : 0, 1);
            }
        }
        CHECK.due("public constants", constants, 3);
        for (Class<?> inside : BassButtons.class.getDeclaredClasses()) {
            CHECK.due(inside.getName() + " is static", Modifier.isStatic(inside.getModifiers()) ? 1 : 0, 1);
        }
    }

    private static void wordsOfTheSource() throws IOException {
        String source = Files.readString(Path.of("src/main/java/BassButtons.java"));
        String code = source.replaceAll("(?s)/\\*.*?\\*/", "").replaceAll("//[^\n]*", "");
        Matcher found = FORBIDDEN.matcher(code);
        while (found.find()) {
            CHECK.due("forbidden in the source: '" + found.group() + "'", 1, 0);
        }
    }
}
