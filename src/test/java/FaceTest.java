import java.lang.reflect.Constructor;
import java.lang.reflect.Field;
import java.lang.reflect.Method;
import java.lang.reflect.Modifier;
import java.util.Arrays;
import java.util.List;
import java.util.Set;
import java.util.TreeSet;

/** The public face: all of the document's, and nothing else that can be seen (LANGUAGE.md, 1). */
public final class FaceTest {
    private static final List<String> METHODS = List.of("type/1", "clear/0", "dance/0", "sign/2", "stand/3",
        "staff/2", "mirrors/1", "canons/3", "changes/3", "adds/2", "undo/0", "meet/3", "fewest/6", "sees/3",
        "forget/0", "unseen/0", "look/0", "keep/1", "back/1", "count/1");

    public static void main(String[] args) {
        constants();
        methods();
        constructors();
        Checks.isTrue("the class is public and final", DanceStaffs.class.getModifiers()
            == (Modifier.PUBLIC | Modifier.FINAL));
        for (Class<?> inside : DanceStaffs.class.getDeclaredClasses()) {
            Checks.isTrue(inside + " is static", Modifier.isStatic(inside.getModifiers()));
        }
        Checks.end();
    }

    private static void constants() {
        Checks.due("BAD", DanceStaffs.BAD, -1);
        Checks.due("STATE", DanceStaffs.STATE, -2);
        Checks.due("FULL", DanceStaffs.FULL, -3);
        Checks.due("NONE", DanceStaffs.NONE, -9);
        Set<String> seen = new TreeSet<>();
        for (Field field : DanceStaffs.class.getDeclaredFields()) {
            int kind = field.getModifiers();
            if (!Modifier.isPrivate(kind)) {
                seen.add(field.getName());
                Checks.isTrue(field + " is an int constant", field.getType() == int.class
                    && kind == (Modifier.PUBLIC | Modifier.STATIC | Modifier.FINAL));
            }
            Checks.isTrue(field + " is static and not final",
                !Modifier.isStatic(kind) || Modifier.isFinal(kind));
        }
        Checks.isTrue("visible fields: " + seen, seen.equals(Set.of("BAD", "STATE", "FULL", "NONE")));
    }

    private static void methods() {
        Set<String> seen = new TreeSet<>();
        Set<String> names = new TreeSet<>();
        for (String method : METHODS) {
            names.add(method.substring(0, method.indexOf('/')));
        }
        for (Method method : DanceStaffs.class.getDeclaredMethods()) {
            if (Modifier.isPrivate(method.getModifiers())) {
                Checks.isTrue(method + " has a public one's name", !names.contains(method.getName()));
                continue;
            }
            seen.add(method.getName() + "/" + method.getParameterCount());
            Checks.isTrue(method + " is public, answers an int", method.getModifiers() == Modifier.PUBLIC
                && method.getReturnType() == int.class);
            for (Class<?> parameter : method.getParameterTypes()) {
                Checks.isTrue(method + " takes ints", parameter == int.class);
            }
        }
        Checks.isTrue("visible methods: " + seen, seen.equals(new TreeSet<>(METHODS)));
    }

    private static void constructors() {
        Constructor<?>[] all = DanceStaffs.class.getDeclaredConstructors();
        Checks.isTrue("constructors: " + Arrays.toString(all), all.length == 1
            && all[0].getParameterCount() == 0 && all[0].getModifiers() == Modifier.PUBLIC);
    }
}
