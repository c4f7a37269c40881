import java.io.IOException;
import java.lang.reflect.Method;
import java.nio.file.Files;
import java.nio.file.Path;
import java.util.Map;
import java.util.Set;
import java.util.TreeSet;
import java.util.regex.Matcher;
import java.util.regex.Pattern;

/** What README.md says each call of its example answers is what it answers, and no call is left out. */
public final class ReadmeTest {
    private static final Path README = Path.of("README.md");
    private static final Pattern CALL = Pattern.compile("recorder\\.(\\w+)\\(([^)]*)\\);(?: *// ([-\\w]+))?");
    private static final Map<String, Integer> CONSTANTS = Map.of("NONE", ScrubbedRecorder.NONE,
        "BAD", ScrubbedRecorder.BAD, "TAKEN", ScrubbedRecorder.TAKEN, "FULL", ScrubbedRecorder.FULL);
    private static final Due due = new Due("README.md");

    public static void main(String[] args) throws IOException, ReflectiveOperationException {
        ScrubbedRecorder x = new ScrubbedRecorder();
        Set<String> left = new TreeSet<>();
        for (Method method : ScrubbedRecorder.class.getDeclaredMethods()) {
            if (java.lang.reflect.Modifier.isPublic(method.getModifiers())) {
                left.add(method.getName());
            }
        }
        Matcher matcher = CALL.matcher(Files.readString(README));
        while (matcher.find()) {
            Object answer = answer(x, matcher.group(1), matcher.group(2));
            left.remove(matcher.group(1));
            String said = matcher.group(3);
            due.yes(matcher.group() + ".. answered " + answer, told(answer).equals(said == null ? "" : value(said)));
        }
        due.yes("no example of " + left, left.isEmpty());
        due.end();
    }

    private static String value(String said) {
        return CONSTANTS.containsKey(said) ? CONSTANTS.get(said).toString() : said;
    }

    private static String told(Object answer) {
        return answer == null ? "" : answer.toString();
    }

    private static Object answer(ScrubbedRecorder x, String name, String written) throws ReflectiveOperationException {
        String[] parts = written.isEmpty() ? new String[0] : written.split(", ");
        for (Method method : ScrubbedRecorder.class.getMethods()) {
            if (method.getName().equals(name) && method.getParameterCount() == parts.length) {
                Object[] arguments = new Object[parts.length];
                for (int i = 0; i < parts.length; i++) {
                    arguments[i] = argument(method.getParameterTypes()[i], parts[i]);
                }
                return method.invoke(x, arguments);
            }
        }
        throw new IllegalArgumentException("README.md: no call " + name);
    }

    private static Object argument(Class<?> type, String written) {
        if (type == boolean.class) {
            return Boolean.valueOf(written);
        }
        return type == long.class ? (Object) Long.decode(written) : (Object) Integer.decode(written);
    }
}
