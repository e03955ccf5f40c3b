import java.io.IOException;
import java.lang.reflect.Field;
import java.lang.reflect.Method;
import java.lang.reflect.Modifier;
import java.nio.file.Files;
import java.nio.file.Path;
import java.util.List;
import java.util.regex.Matcher;
import java.util.regex.Pattern;

/** The example of README.md answers as it says, and the tables of README.md name every call and every constant. */
public final class ReadmeTest {
    private static final Due due = new Due("ReadmeTest");
    private static final Pattern MADE = Pattern.compile("WitnessedMirror mirror = new WitnessedMirror\\((-?\\d+)\\);.*");
    private static final Pattern CALL = Pattern.compile("mirror\\.(\\w+)\\((.*?)\\); *// (-?\\w+).*");

    public static void main(String[] args) throws IOException, ReflectiveOperationException {
        List<String> readme = Files.readAllLines(Path.of("README.md"));
        example(readme);
        tables(String.join("\n", readme));
        due.end();
    }

    private static void example(List<String> readme) throws ReflectiveOperationException {
        WitnessedMirror mirror = null;
        int calls = 0;
        for (String line : readme) {
            Matcher made = MADE.matcher(line);
            Matcher call = CALL.matcher(line);
            if (made.matches()) {
                mirror = new WitnessedMirror(Integer.parseInt(made.group(1)));
            } else if (call.matches()) {
                calls++;
                due.same(line, call.group(3), answer(mirror, call.group(1), call.group(2), call.group(3)));
            } else {
                due.is("a call without an answer: " + line, 0, line.startsWith("mirror.") ? 1 : 0);
            }
        }
        due.is("the example has calls", 1, calls > 0 ? 1 : 0);
    }

    /** The answer as the example would tell it: by the name of a constant if it tells one, else by its number. */
    private static String answer(WitnessedMirror mirror, String name, String args, String told)
            throws ReflectiveOperationException {
        Method method = methodOf(name);
        String[] words = args.isEmpty() ? new String[0] : args.split(", ");
        Object[] values = new Object[words.length];
        for (int i = 0; i < words.length; i++) {
            boolean number = method.getParameterTypes()[i] == int.class;
            values[i] = number ? (Object) Integer.valueOf(words[i]) : (Object) Boolean.valueOf(words[i]);
        }
        String got = method.invoke(mirror, values).toString();
        boolean byName = Character.isLetter(told.charAt(0));
        return byName && got.equals(constant(told)) ? told : got;
    }

    private static String constant(String name) throws ReflectiveOperationException {
        return WitnessedMirror.class.getField(name).get(null).toString();
    }

    private static Method methodOf(String name) throws NoSuchMethodException {
        for (Method method : WitnessedMirror.class.getDeclaredMethods()) {
            if (Modifier.isPublic(method.getModifiers()) && method.getName().equals(name)) {
                return method;
            }
        }
        throw new NoSuchMethodException(name);
    }

    private static void tables(String readme) {
        for (Method method : WitnessedMirror.class.getDeclaredMethods()) {
            if (Modifier.isPublic(method.getModifiers())) {
                due.is(method.getName() + " is in the table of calls", 1,
                    readme.contains("\n| `" + method.getName() + "(") ? 1 : 0);
            }
        }
        for (Field field : WitnessedMirror.class.getFields()) {
            due.is(field.getName() + " is told", 1, readme.contains("`" + field.getName() + "`") ? 1 : 0);
        }
    }
}
