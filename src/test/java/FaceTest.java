import java.io.IOException;
import java.lang.reflect.Constructor;
import java.lang.reflect.Field;
import java.lang.reflect.Method;
import java.lang.reflect.Modifier;
import java.nio.file.Path;
import java.util.Set;
import java.util.TreeSet;

/** The public face, as the document writes it, and nothing beside it; the constants. */
public final class FaceTest {
    private static final Check CHECK = new Check("FaceTest");

    private static final String[] FACE = {
        "public static final int NONE = -1;",
        "public static final int TOO_LARGE = -2;",
        "public static final int ILL = -3;",
        "public RootLoom();",
        "public boolean type(int t, int left, int right);",
        "public int function(int result, int parameters, int first, int second, int third);",
        "public int node(int kind, int a, int b, int c);",
        "public boolean body(int function, int node);",
        "public int lay();",
        "public int laid(int what);",
        "public int instruction(int i, int what) throws IndexOutOfBoundsException, IllegalArgumentException;",
        "public int entry(int function);",
        "public int map(int i, int which);",
        "public boolean heap(int words);",
        "public boolean force(int n);",
        "public int run(int function, int first, int second, int third);",
        "public int latest(int what);",
        "public int out(int i);",
        "public int tell(int path, int n);",
        "public int value(int path, int n);",
    };

    public static void main(String[] args) throws IOException, IllegalAccessException {
        asTheDocumentWritesIt(Path.of(args.length == 0 ? "." : args[0]));
        classItself();
        members();
        constants();
        classesInside();
        CHECK.end();
    }

    private static void asTheDocumentWritesIt(Path root) throws IOException {
        Document document = Document.below(root);
        if (document == null) {
            System.out.println("FaceTest: there is no ../shared/DOC.md here, so the face was not compared with it");
            return;
        }
        String written = "public final class RootLoom { " + String.join(" ", FACE) + " }";
        CHECK.due("the document's face is this one", document.named("The public face").words.equals(written), true);
    }

    private static void classItself() {
        int modifiers = RootLoom.class.getModifiers();
        CHECK.due("public", Modifier.isPublic(modifiers), true);
        CHECK.due("final", Modifier.isFinal(modifiers), true);
        CHECK.due("without a package", RootLoom.class.getPackageName().isEmpty(), true);
    }

    private static void members() throws IllegalAccessException {
        Set<String> due = new TreeSet<>();
        for (String line : FACE) {
            due.add(line.replaceAll("int \\w+([,)])", "int$1"));
        }
        Set<String> seen = new TreeSet<>();
        for (Field field : RootLoom.class.getDeclaredFields()) {
            if (!Modifier.isPrivate(field.getModifiers())) {
                seen.add(told(field));
            }
        }
        for (Constructor<?> made : RootLoom.class.getDeclaredConstructors()) {
            if (!Modifier.isPrivate(made.getModifiers())) {
                seen.add(begun(made.getModifiers()) + "RootLoom(" + names(made.getParameterTypes()) + ");");
            }
        }
        for (Method method : RootLoom.class.getDeclaredMethods()) {
            if (!Modifier.isPrivate(method.getModifiers())) {
                seen.add(told(method));
            }
        }
        for (String one : seen) {
            CHECK.due(one + " is of the face", due.contains(one), true);
        }
        for (String one : due) {
            CHECK.due(one + " is there", seen.contains(one), true);
        }
    }

    private static String begun(int modifiers) {
        String written = Modifier.toString(modifiers);
        return written.isEmpty() ? "" : written + " ";
    }

    private static String told(Field field) throws IllegalAccessException {
        boolean readable = Modifier.isStatic(field.getModifiers()) && Modifier.isPublic(field.getModifiers());
        return begun(field.getModifiers()) + field.getType() + " " + field.getName() + " = "
                + (readable ? field.get(null) : "?") + ";";
    }

    private static String told(Method method) {
        String made = begun(method.getModifiers()) + method.getReturnType() + " " + method.getName() + "("
                + names(method.getParameterTypes()) + ")";
        Class<?>[] thrown = method.getExceptionTypes();
        return (thrown.length == 0 ? made : made + " throws " + names(thrown)) + ";";
    }

    private static String names(Class<?>[] classes) {
        String[] names = new String[classes.length];
        for (int k = 0; k < classes.length; k++) {
            names[k] = classes[k].getSimpleName();
        }
        return String.join(", ", names);
    }

    private static void constants() {
        CHECK.sentence("The constants: `NONE = -1`: None such, or it can't be");
        RootLoom x = new RootLoom();
        CHECK.due("NONE", RootLoom.NONE, -1);
        CHECK.due("none such", x.entry(0), RootLoom.NONE);
        CHECK.due("it can't be", x.node(18, 0, 0, 0), RootLoom.NONE);
        CHECK.sentence("`TOO_LARGE = -2`: Too much to be laid down");
        CHECK.due("TOO_LARGE", RootLoom.TOO_LARGE, -2);
        x.function(0, 0, 0, 0, 0);
        int made = x.node(0, 1, 0, 0);
        for (int k = 0; k < 8; k++) {
            made = x.node(3, made, made, 0);
        }
        x.body(0, made);
        CHECK.due("512 instructions", x.lay(), RootLoom.TOO_LARGE);
        CHECK.sentence("`ILL = -3`: Not well typed");
        CHECK.due("ILL", RootLoom.ILL, -3);
        x.body(0, x.node(1, 1, 0, 0));
        CHECK.due("NIL as an INT", x.lay(), RootLoom.ILL);
    }

    /** Rules 1, 5 and 11 of the language, as far as the classes tell. */
    private static void classesInside() {
        CHECK.noSentence();
        Set<String> faceNames = new TreeSet<>();
        for (Method method : RootLoom.class.getMethods()) {
            faceNames.add(method.getName());
        }
        for (Method method : RootLoom.class.getDeclaredMethods()) {
            boolean hides = Modifier.isPrivate(method.getModifiers()) && faceNames.contains(method.getName());
            CHECK.due(method.getName() + " is private with a name of the face", hides, false);
        }
        Class<?>[] inside = RootLoom.class.getDeclaredClasses();
        CHECK.due("twelve classes at most", inside.length < 12, true);
        for (Class<?> one : inside) {
            CHECK.due(one.getName() + " is static", Modifier.isStatic(one.getModifiers()), true);
            CHECK.due(one.getName() + " is not public", Modifier.isPublic(one.getModifiers()), false);
            for (Method method : one.getDeclaredMethods()) {
                boolean hides = Modifier.isPrivate(method.getModifiers()) && faceNames.contains(method.getName());
                CHECK.due(one.getName() + "." + method.getName() + " is private with a name of the face", hides, false);
                CHECK.due(method.getName() + " takes seven at most", method.getParameterCount() <= 7, true);
            }
            for (Field field : one.getDeclaredFields()) {
                boolean changes = Modifier.isStatic(field.getModifiers()) && !Modifier.isFinal(field.getModifiers());
                CHECK.due(one.getName() + "." + field.getName() + " is static and changes", changes, false);
            }
        }
    }
}
