import java.lang.reflect.Constructor;
import java.lang.reflect.Field;
import java.lang.reflect.Method;
import java.lang.reflect.Modifier;
import java.util.Arrays;
import java.util.List;
import java.util.TreeSet;

/** The class from outside: the document's face and nothing else that others can see or change. */
public final class FaceTest {
    private static final List<String> METHODS = List.of(
        "boolean clear(int)", "boolean code(int, int, int)", "boolean give(int, int, int)",
        "boolean poke(int, int)", "int count(int, int)", "int deliver(int, int)",
        "int exported(int, int)", "int flying(int, int)", "int home(int)", "int imported(int, int)",
        "int inbox(int)", "int number(int)", "int output(int, int)", "int resolved(int)",
        "int slot(int, int)", "int sweep(int)", "int turn(int)");

    private static String face(Method method) {
        StringBuilder text = new StringBuilder();
        text.append(method.getReturnType().getName()).append(' ').append(method.getName()).append('(');
        Class<?>[] types = method.getParameterTypes();
        for (int i = 0; i < types.length; i++) {
            text.append(i > 0 ? ", " : "").append(types[i].getName());
        }
        return text.append(')').toString();
    }

    private static void checkMethods() {
        TreeSet<String> faces = new TreeSet<>();
        TreeSet<String> publicNames = new TreeSet<>();
        for (Method method : PromiseVats.class.getDeclaredMethods()) {
            if (Modifier.isPublic(method.getModifiers())) {
                faces.add(face(method));
                publicNames.add(method.getName());
            }
        }
        Check.due("whether the public methods are " + METHODS + ", not " + faces,
            faces.equals(new TreeSet<>(METHODS)), true);
        for (Method method : PromiseVats.class.getDeclaredMethods()) {
            if (!Modifier.isPublic(method.getModifiers()) && !method.isSynthetic()) {
                Check.due("private " + method, Modifier.isPrivate(method.getModifiers()), true);
                Check.due("a public name of " + method, publicNames.contains(method.getName()), false);
            }
        }
    }

    private static void checkFields() {
        for (Field field : PromiseVats.class.getDeclaredFields()) {
            if (field.isSynthetic()) {
                continue;
            }
            boolean constant = field.getName().equals("NONE");
            int modifiers = field.getModifiers();
            Check.due("public " + field, Modifier.isPublic(modifiers), constant);
            Check.due("private " + field, Modifier.isPrivate(modifiers), !constant);
            Check.due("changeable static " + field,
                Modifier.isStatic(modifiers) && !Modifier.isFinal(modifiers), false);
        }
    }

    private static void checkNested() {
        for (Class<?> nested : PromiseVats.class.getDeclaredClasses()) {
            int modifiers = nested.getModifiers();
            Check.due("static " + nested, Modifier.isStatic(modifiers), true);
            Check.due("public " + nested,
                Modifier.isPublic(modifiers) || Modifier.isProtected(modifiers), false);
        }
    }

    public static void main(String[] args) {
        Check.begin("The public face");
        int modifiers = PromiseVats.class.getModifiers();
        Check.due("public", Modifier.isPublic(modifiers), true);
        Check.due("final", Modifier.isFinal(modifiers), true);
        Check.due("NONE", PromiseVats.NONE, -1);
        Constructor<?>[] constructors = PromiseVats.class.getDeclaredConstructors();
        Check.due("constructors", constructors.length, 1);
        Check.due("constructor of int",
            Arrays.equals(constructors[0].getParameterTypes(), new Class<?>[] {int.class}), true);
        Check.due("public constructor", Modifier.isPublic(constructors[0].getModifiers()), true);
        checkMethods();
        checkFields();
        checkNested();
        Check.end();
    }
}
