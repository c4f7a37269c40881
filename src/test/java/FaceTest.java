import java.io.IOException;
import java.lang.reflect.Constructor;
import java.lang.reflect.Field;
import java.lang.reflect.Method;
import java.lang.reflect.Modifier;
import java.nio.file.Files;
import java.nio.file.Path;
import java.util.Arrays;
import java.util.Set;
import java.util.TreeSet;
import java.util.regex.Matcher;
import java.util.regex.Pattern;

/** The document's public face, and nothing else that can be seen from outside (LANGUAGE.md, rule 1). */
public final class FaceTest {
    private static final Due due = new Due("the face");
    private static final Path DOCUMENT = Path.of("..", "shared", "DOC.md");
    private static final Pattern METHOD = Pattern.compile("public (\\w+ \\w+\\([^)]*\\));");

    private static final String[] METHODS = {
        "int makeStore(int, boolean, int)", "boolean dropStore(int)", "boolean put(int, long)",
        "int record(int, int, int, int)", "int play(int, int, int, int)", "boolean stop(int)",
        "int frame()", "int frameByte(int)", "int confirm(int, int, int)", "boolean gap(int, int)",
        "int count(int, int)", "int packetByte(int, int, int)", "int seek(int, int)",
        "int tick(int)", "boolean flip(int, int, int)", "boolean latch(int)",
        "boolean power(int)", "int checkpoint(int)", "void reset()", "int told(int)",
    };

    public static void main(String[] args) throws IOException {
        due.is("the class is public and final",
            ScrubbedRecorder.class.getModifiers() & (Modifier.PUBLIC | Modifier.FINAL), Modifier.PUBLIC | Modifier.FINAL);
        constants();
        constructors();
        methods();
        methodsOfTheDocument();
        classesInside();
        due.end();
    }

    private static void constants() {
        due.is("NONE", ScrubbedRecorder.NONE, -1);
        due.is("BAD", ScrubbedRecorder.BAD, -2);
        due.is("TAKEN", ScrubbedRecorder.TAKEN, -3);
        due.is("FULL", ScrubbedRecorder.FULL, -4);
        int seen = 0;
        for (Field field : ScrubbedRecorder.class.getDeclaredFields()) {
            int modifiers = field.getModifiers();
            if (!Modifier.isPrivate(modifiers)) {
                seen++;
                due.yes(field.getName() + " is a public constant", Modifier.isPublic(modifiers)
                    && Modifier.isStatic(modifiers) && Modifier.isFinal(modifiers) && field.getType() == int.class);
            }
            due.yes(field.getName() + ", if static, is final", !Modifier.isStatic(modifiers) || Modifier.isFinal(modifiers));
        }
        due.is("fields that can be seen", seen, 4);
    }

    private static void constructors() {
        Constructor<?>[] constructors = ScrubbedRecorder.class.getDeclaredConstructors();
        due.is("constructors", constructors.length, 1);
        due.is("its parameters", constructors[0].getParameterCount(), 0);
        due.yes("it is public", Modifier.isPublic(constructors[0].getModifiers()));
    }

    private static void methods() {
        Set<String> seen = new TreeSet<>();
        Set<String> names = new TreeSet<>();
        for (Method method : ScrubbedRecorder.class.getDeclaredMethods()) {
            if (!Modifier.isPrivate(method.getModifiers())) {
                due.yes(method.getName() + " is public", Modifier.isPublic(method.getModifiers()));
                seen.add(signature(method));
                names.add(method.getName());
            }
        }
        for (Method method : ScrubbedRecorder.class.getDeclaredMethods()) {
            due.no(method.getName() + " is private and bears a public name",
                Modifier.isPrivate(method.getModifiers()) && names.contains(method.getName()));
        }
        due.yes("the methods are " + seen, seen.equals(new TreeSet<>(Arrays.asList(METHODS))));
    }

    /** The list above is the one that the document shows. */
    private static void methodsOfTheDocument() throws IOException {
        if (!Files.exists(DOCUMENT)) {
            System.out.println("the face: " + DOCUMENT + " is not there, nothing to compare with");
            return;
        }
        Set<String> shown = new TreeSet<>();
        Matcher matcher = METHOD.matcher(Files.readString(DOCUMENT));
        while (matcher.find()) {
            shown.add(matcher.group(1).replaceAll("(\\w+) \\w+(?=[,)])", "$1"));
        }
        due.yes("the document shows " + shown, shown.equals(new TreeSet<>(Arrays.asList(METHODS))));
    }

    private static String signature(Method method) {
        String parameters = Arrays.toString(method.getParameterTypes()).replace("[", "(").replace("]", ")");
        return method.getReturnType() + " " + method.getName() + parameters;
    }

    private static void classesInside() {
        for (Class<?> inside : ScrubbedRecorder.class.getDeclaredClasses()) {
            due.yes(inside.getName() + " is static", Modifier.isStatic(inside.getModifiers()));
            due.no(inside.getName() + " is public", Modifier.isPublic(inside.getModifiers()));
        }
    }
}
