import java.lang.reflect.Field;
import java.lang.reflect.Method;
import java.lang.reflect.Modifier;
import java.util.Set;
import java.util.TreeSet;

/** The constants, the constructor and the methods of the document, and no other member that can be seen. */
public final class FaceTest {
    private static final Due due = new Due("FaceTest");

    public static void main(String[] args) {
        constants();
        members();
        due.end();
    }

    private static void constants() {
        due.is("DONE", 0, WitnessedMirror.DONE);
        due.is("REFUSED", -1, WitnessedMirror.REFUSED);
        due.is("FULL", -2, WitnessedMirror.FULL);
        due.is("FROZEN", -3, WitnessedMirror.FROZEN);
        due.is("HELD", -4, WitnessedMirror.HELD);
        due.is("OUTDATED", -5, WitnessedMirror.OUTDATED);
        due.is("UNFIT", -6, WitnessedMirror.UNFIT);
        due.is("CRASHED", -7, WitnessedMirror.CRASHED);
        due.is("NONE", -1000000000000L, WitnessedMirror.NONE);
    }

    private static void members() {
        Class<?> face = WitnessedMirror.class;
        due.is("public and final", Modifier.PUBLIC | Modifier.FINAL, face.getModifiers());
        due.is("constructors", 1, face.getDeclaredConstructors().length);
        Set<String> fields = new TreeSet<>();
        for (Field field : face.getDeclaredFields()) {
            if (!Modifier.isPrivate(field.getModifiers())) {
                fields.add(field.getName());
            }
        }
        due.same("fields", "[CRASHED, DONE, FROZEN, FULL, HELD, NONE, OUTDATED, REFUSED, UNFIT]", fields.toString());
        Set<String> seen = new TreeSet<>();
        Set<String> hidden = new TreeSet<>();
        for (Method method : face.getDeclaredMethods()) {
            if (!method.isSynthetic()) {
                (Modifier.isPrivate(method.getModifiers()) ? hidden : seen).add(method.getName());
            }
        }
        due.same("methods", "[block, cell, commit, connect, crash, demote, line, mirror, node, promote, renew, "
            + "restart, resync, stage, swap, tick, witnessLine]", seen.toString());
        hidden.retainAll(seen);
        due.same("private methods with a public name", "[]", hidden.toString());
    }
}
