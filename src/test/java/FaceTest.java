import java.lang.reflect.Constructor;
import java.lang.reflect.Field;
import java.lang.reflect.Method;
import java.lang.reflect.Modifier;
import java.util.Arrays;
import java.util.Set;
import java.util.TreeSet;

/** The public face, as the document writes it, and nothing beside it; the constants. */
public final class FaceTest {
    private static final Check CHECK = new Check("FaceTest");

    private static final String[] METHODS = {
        "boolean type(int,int,int)",
        "int function(int,int,int,int,int)",
        "int node(int,int,int,int)",
        "boolean body(int,int)",
        "int lay()",
        "int laid(int)",
        "int instruction(int,int) throws IndexOutOfBoundsException,IllegalArgumentException",
        "int entry(int)",
        "int map(int,int)",
        "boolean heap(int)",
        "boolean force(int)",
        "int run(int,int,int,int)",
        "int latest(int)",
        "int out(int)",
        "int tell(int,int)",
        "int value(int,int)",
    };

    public static void main(String[] args) {
        classItself();
        constants();
        constructors();
        methods();
        classesInside();
        CHECK.end();
    }

    private static void classItself() {
        int modifiers = RootLoom.class.getModifiers();
        CHECK.due("public", Modifier.isPublic(modifiers), true);
        CHECK.due("final", Modifier.isFinal(modifiers), true);
        CHECK.due("without a package", RootLoom.class.getPackageName().isEmpty(), true);
    }

    private static void constants() {
        CHECK.due("NONE", RootLoom.NONE, -1);
        CHECK.due("TOO_LARGE", RootLoom.TOO_LARGE, -2);
        CHECK.due("ILL", RootLoom.ILL, -3);
        Set<String> seen = new TreeSet<>();
        for (Field field : RootLoom.class.getDeclaredFields()) {
            if (!Modifier.isPrivate(field.getModifiers())) {
                seen.add(Modifier.toString(field.getModifiers()) + " " + field.getType() + " " + field.getName());
            }
        }
        same("fields", seen, "public static final int NONE", "public static final int TOO_LARGE",
                "public static final int ILL");
    }

    private static void constructors() {
        Constructor<?>[] made = RootLoom.class.getDeclaredConstructors();
        CHECK.due("one constructor", made.length, 1);
        CHECK.due("it is public", Modifier.isPublic(made[0].getModifiers()), true);
        CHECK.due("it takes nothing", made[0].getParameterCount(), 0);
    }

    private static void methods() {
        Set<String> seen = new TreeSet<>();
        for (Method method : RootLoom.class.getDeclaredMethods()) {
            if (!Modifier.isPrivate(method.getModifiers())) {
                CHECK.due(method.getName() + " is public and no more", method.getModifiers(), Modifier.PUBLIC);
                seen.add(told(method));
            }
        }
        same("methods", seen, METHODS);
    }

    private static String told(Method method) {
        String made = method.getReturnType() + " " + method.getName() + "(" + names(method.getParameterTypes()) + ")";
        Class<?>[] thrown = method.getExceptionTypes();
        return thrown.length == 0 ? made : made + " throws " + names(thrown);
    }

    private static String names(Class<?>[] classes) {
        String[] names = new String[classes.length];
        for (int k = 0; k < classes.length; k++) {
            names[k] = classes[k].getSimpleName();
        }
        return String.join(",", names);
    }

    /** Rules 1, 5 and 11 of the language, as far as the classes tell. */
    private static void classesInside() {
        Set<String> faceNames = new TreeSet<>();
        for (Method method : RootLoom.class.getMethods()) {
            faceNames.add(method.getName());
        }
        for (Method method : RootLoom.class.getDeclaredMethods()) {
            boolean hides = Modifier.isPrivate(method.getModifiers()) && faceNames.contains(method.getName());
            CHECK.due(method.getName() + " is private with a name of the face", hides, false);
        }
        Class<?>[] inside = RootLoom.class.getDeclaredClasses();
        CHECK.due("twelve classes at most", inside.length < 12, true);
        for (Class<?> one : inside) {
            CHECK.due(one.getName() + " is static", Modifier.isStatic(one.getModifiers()), true);
            CHECK.due(one.getName() + " is not public", Modifier.isPublic(one.getModifiers()), false);
            for (Method method : one.getDeclaredMethods()) {
                boolean hides = Modifier.isPrivate(method.getModifiers()) && faceNames.contains(method.getName());
                CHECK.due(one.getName() + "." + method.getName() + " is private with a name of the face", hides, false);
                CHECK.due(method.getName() + " takes seven at most", method.getParameterCount() <= 7, true);
            }
            for (Field field : one.getDeclaredFields()) {
                boolean changes = Modifier.isStatic(field.getModifiers()) && !Modifier.isFinal(field.getModifiers());
                CHECK.due(one.getName() + "." + field.getName() + " is static and changes", changes, false);
            }
        }
    }

    private static void same(String what, Set<String> seen, String... want) {
        Set<String> due = new TreeSet<>(Arrays.asList(want));
        for (String one : seen) {
            CHECK.due(what + ": " + one + " is of the face", due.contains(one), true);
        }
        for (String one : due) {
            CHECK.due(what + ": " + one + " is there", seen.contains(one), true);
        }
    }
}
