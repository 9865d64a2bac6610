import java.io.IOException;
import java.lang.reflect.InvocationTargetException;
import java.lang.reflect.Method;
import java.lang.reflect.Modifier;
import java.nio.file.Files;
import java.nio.file.Path;
import java.util.HashMap;
import java.util.Map;
import java.util.regex.Matcher;
import java.util.regex.Pattern;

/** What README.md tells of the use of the class is so. */
public final class ReadmeTest {
    private static final Check CHECK = new Check();
    private static final Pattern CALL = Pattern.compile("ring\\.(\\w+)\\(([^)]*)\\); +// (-?\\d+|true|false)\\b.*");
    private static final Pattern TOLD = Pattern.compile("feed\\(ring, \"([^\"]*)\"\\);");
    private static final int CALLS = 22;

    public static void main(String[] args) throws IOException, ReflectiveOperationException {
        String readme = Files.readString(Path.of("README.md"));
        String[] blocks = readme.split("```(java)?\n");
        checkFeeding(blocks[1]);
        checkCalls(blocks[3]);
        for (Method method : faceMethods().values()) {
            CHECK.due(method.getName() + " is in the table", readme.contains(" `" + method.getName() + "`"), true);
        }
        CHECK.finish("ReadmeTest");
    }

    private static Map<String, Method> faceMethods() {
        Map<String, Method> methods = new HashMap<>();
        for (Method method : NameRing.class.getDeclaredMethods()) {
            if (Modifier.isPublic(method.getModifiers())) {
                methods.put(method.getName(), method);
            }
        }
        return methods;
    }

    /** A text is fed there as the tests feed it. */
    private static void checkFeeding(String block) throws IOException {
        String tests = Files.readString(Path.of("src/test/java/Check.java"));
        CHECK.due("texts are fed as in Check", tests.replaceAll("\\s+", " ").contains(block.replaceAll("\\s+", " ").strip()), true);
    }

    private static void checkCalls(String block) throws IllegalAccessException, InvocationTargetException {
        NameRing ring = new NameRing();
        int calls = 0;
        for (String line : block.strip().split("\n")) {
            Matcher told = TOLD.matcher(line);
            Matcher call = CALL.matcher(line);
            if (told.matches()) {
                Check.feed(ring, told.group(1));
            } else if (call.matches()) {
                String answer = answerOf(ring, call.group(1), call.group(2)).toString();
                CHECK.due(line + " answered " + answer, answer.equals(call.group(3)), true);
                calls++;
            } else {
                CHECK.due("a line that is no call: " + line, line.equals("NameRing ring = new NameRing();"), true);
            }
        }
        CHECK.due("calls with an answer", calls, CALLS);
    }

    private static Object answerOf(NameRing ring, String name, String arguments)
            throws IllegalAccessException, InvocationTargetException {
        String[] given = arguments.isEmpty() ? new String[0] : arguments.split(", ");
        Object[] numbers = new Object[given.length];
        for (int i = 0; i < given.length; i++) {
            numbers[i] = Integer.parseInt(given[i]);
        }
        return faceMethods().get(name).invoke(ring, numbers);
    }
}
