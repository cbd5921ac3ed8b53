import java.lang.reflect.Field;
import java.lang.reflect.Method;
import java.lang.reflect.Modifier;
import java.util.Map;
import java.util.TreeMap;

/** The public face: the constants, the constructor, the methods, and nothing beside them. */
public final class FaceTest {
    private static final Checks checks = new Checks("FaceTest");
    private static final String FACE = "feed1 house0 fault0 told1 person2 doing2 act2 sit1 drift1 stack1 law2 undo1 freezes1 favour3 "
        + "allWarm2 duel4 forEver1 fair0 left2 doers1 chair1 note4 laws1 tryNext1 write2 judge1 tear0 seed1 keep1 goBack1";

    public static void main(String[] args) {
        constants();
        methods();
        privateNames();
        checks.due("public final class", StoveFavours.class.getModifiers(), Modifier.PUBLIC | Modifier.FINAL);
        checks.due("constructors", StoveFavours.class.getDeclaredConstructors().length, 1);
        checks.due("public constructor", StoveFavours.class.getDeclaredConstructors()[0].getModifiers(), Modifier.PUBLIC);
        checks.finish();
    }

    private static void constants() {
        checks.due("NONE", StoveFavours.NONE, -1);
        checks.due("UNKNOWN", StoveFavours.UNKNOWN, -1000000001);
        checks.due("OUTSIDE", StoveFavours.OUTSIDE, -1000000002);
        checks.due("NOT", StoveFavours.NOT, -1000000003);
        checks.due("FULL", StoveFavours.FULL, -1000000004);
        int shown = 0;
        for (Field field : StoveFavours.class.getDeclaredFields()) {
            shown += Modifier.isPrivate(field.getModifiers()) ? 0 : 1;
        }
        checks.due("fields that are not private", shown, 5);
    }

    private static void methods() {
        Map<String, Integer> shown = new TreeMap<>();
        for (Method method : StoveFavours.class.getDeclaredMethods()) {
            if (!Modifier.isPrivate(method.getModifiers())) {
                shown.put(method.getName() + method.getParameterCount(), method.getModifiers());
                checks.due(method.getName() + " answers an int", method.getReturnType() == int.class ? 1 : 0, 1);
            }
        }
        String[] face = FACE.split(" ");
        for (String name : face) {
            checks.due(name, shown.getOrDefault(name, 0), Modifier.PUBLIC);
        }
        checks.due("methods that are not private", shown.size(), face.length);
    }

    /** Rule 1 of LANGUAGE.md: no other method bears the name of a public one. */
    private static void privateNames() {
        String face = " " + FACE.replaceAll("[0-9]", "") + " ";
        for (Method method : StoveFavours.class.getDeclaredMethods()) {
            if (Modifier.isPrivate(method.getModifiers())) {
                checks.due("public name of " + method.getName(), face.contains(" " + method.getName() + " ") ? 1 : 0, 0);
            }
        }
        for (Class<?> inner : StoveFavours.class.getDeclaredClasses()) {
            checks.due(inner.getName() + " is static", Modifier.isStatic(inner.getModifiers()) ? 1 : 0, 1);
            for (Method method : inner.getDeclaredMethods()) {
                checks.due("public name of " + method.getName(), face.contains(" " + method.getName() + " ") ? 1 : 0, 0);
            }
        }
    }
}
