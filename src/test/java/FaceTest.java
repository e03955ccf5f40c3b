import java.lang.reflect.Constructor;
import java.lang.reflect.Field;
import java.lang.reflect.Method;
import java.lang.reflect.Modifier;
import java.util.Set;
import java.util.TreeSet;

/** The constants, the constructor and the methods of the document, with their types, and no other member that can be seen. */
public final class FaceTest {
    private static final Due due = new Due("FaceTest");
    private static final Class<?> FACE = WitnessedMirror.class;

    private static final String[] METHODS = {
        "int stage(int, int)",
        "int commit(int, int)",
        "long cell(int)",
        "int crash(int, int)",
        "int restart(int)",
        "int swap(int)",
        "int line(boolean)",
        "int witnessLine(int, boolean)",
        "int connect()",
        "int resync(int)",
        "int promote(int, boolean)",
        "int demote(int)",
        "int renew()",
        "int tick(int)",
        "long block(int, int, boolean)",
        "int node(int, int)",
        "int mirror(int)"};

    public static void main(String[] args) throws IllegalAccessException {
        due.is("public and final", Modifier.PUBLIC | Modifier.FINAL, FACE.getModifiers());
        due.is("in a package", 0, FACE.getPackageName().length());
        constants();
        constructor();
        methods();
        classesInside();
        due.end();
    }

    private static void constants() throws IllegalAccessException {
        Set<String> want = new TreeSet<>(Set.of("int DONE = 0", "int REFUSED = -1", "int FULL = -2", "int FROZEN = -3",
            "int HELD = -4", "int OUTDATED = -5", "int UNFIT = -6", "int CRASHED = -7", "long NONE = -1000000000000"));
        Set<String> got = new TreeSet<>();
        for (Field field : FACE.getDeclaredFields()) {
            if (!Modifier.isPrivate(field.getModifiers())) {
                due.is("public static final " + field.getName(), Modifier.PUBLIC | Modifier.STATIC | Modifier.FINAL,
                    field.getModifiers());
                got.add(field.getType() + " " + field.getName() + " = " + field.get(null));
            }
        }
        due.same("constants", want.toString(), got.toString());
    }

    private static void constructor() {
        due.is("constructors", 1, FACE.getDeclaredConstructors().length);
        for (Constructor<?> made : FACE.getDeclaredConstructors()) {
            due.same("constructor", "public WitnessedMirror(int)", made.toString());
        }
    }

    private static void methods() {
        Set<String> want = new TreeSet<>();
        for (String method : METHODS) {
            want.add("public " + method);
        }
        Set<String> seen = new TreeSet<>();
        Set<String> seenNames = new TreeSet<>();
        Set<String> hiddenNames = new TreeSet<>();
        for (Method method : FACE.getDeclaredMethods()) {
            if (method.isSynthetic()) {
                continue;
            }
            if (Modifier.isPrivate(method.getModifiers())) {
                hiddenNames.add(method.getName());
            } else {
                seenNames.add(method.getName());
                seen.add(method.toString().replace("WitnessedMirror.", "").replace(",", ", "));
            }
        }
        due.same("methods", want.toString(), seen.toString());
        hiddenNames.retainAll(seenNames);
        due.same("private methods with a public name", "[]", hiddenNames.toString());
    }

    private static void classesInside() {
        for (Class<?> inside : FACE.getDeclaredClasses()) {
            int modifiers = inside.getModifiers();
            due.is(inside.getName() + " is static", 1, Modifier.isStatic(modifiers) ? 1 : 0);
            due.is(inside.getName() + " is public or protected", 0,
                Modifier.isPublic(modifiers) || Modifier.isProtected(modifiers) ? 1 : 0);
        }
    }
}
