import java.lang.reflect.Constructor;
import java.lang.reflect.Field;
import java.lang.reflect.Method;
import java.lang.reflect.Modifier;
import java.util.TreeSet;

/** The public face of the class: what the document lists, and nothing more. */
public final class FaceTests {
    private static final String[] METHODS = {"begin 1", "put 2", "copy 2", "order 4", "tick 1", "set 2", "mark 0",
        "keep 0", "back 1", "markOf 3", "nameOf 2", "chairOf 2", "orderOf 2", "count 1", "sends 3", "idleIn 0",
        "knownIn 1", "undo 0", "type 1", "clearText 0", "fault 1", "play 0"};
    private static final String[] CONSTANTS = {"INVALID_ARGUMENT", "NOT_POSSIBLE", "LIMIT_REACHED", "NOT_FOUND"};

    public static void main(String[] args) {
        Class<?> face = ChairNames.class;
        if (!Modifier.isPublic(face.getModifiers()) || !Modifier.isFinal(face.getModifiers())) {
            Checks.tell("the class is not public and final");
        }
        TreeSet<String> methods = new TreeSet<>();
        for (Method m : face.getDeclaredMethods()) {
            if (!Modifier.isPrivate(m.getModifiers())) {
                methods.add(m.getName() + " " + m.getParameterCount());
                boolean plain = Modifier.isPublic(m.getModifiers()) && !Modifier.isStatic(m.getModifiers());
                if (!plain || m.getReturnType() != int.class) {
                    Checks.tell(m + " is not of the document's form");
                }
                for (Class<?> parameter : m.getParameterTypes()) {
                    if (parameter != int.class) {
                        Checks.tell(m + " takes something other than int");
                    }
                }
            }
        }
        Checks.same("methods", methods.toString(), new TreeSet<>(java.util.List.of(METHODS)).toString());
        TreeSet<String> constants = new TreeSet<>();
        for (Field f : face.getDeclaredFields()) {
            if (!Modifier.isPrivate(f.getModifiers())) {
                constants.add(f.getName());
            }
        }
        Checks.same("constants", constants.toString(), new TreeSet<>(java.util.List.of(CONSTANTS)).toString());
        int open = 0;
        for (Constructor<?> c : face.getDeclaredConstructors()) {
            open += Modifier.isPublic(c.getModifiers()) && c.getParameterCount() == 0 ? 1 : 100;
        }
        Checks.due("constructors", open, 1);
        Checks.due("INVALID_ARGUMENT", ChairNames.INVALID_ARGUMENT, -1);
        Checks.due("NOT_POSSIBLE", ChairNames.NOT_POSSIBLE, -2);
        Checks.due("LIMIT_REACHED", ChairNames.LIMIT_REACHED, -3);
        Checks.due("NOT_FOUND", ChairNames.NOT_FOUND, -4);
        Checks.end("FaceTests");
    }
}
