import java.lang.reflect.Constructor;
import java.lang.reflect.Field;
import java.lang.reflect.Member;
import java.lang.reflect.Method;
import java.lang.reflect.Modifier;
import java.util.Arrays;
import java.util.TreeSet;

/** The public face: what the document names, and nothing else that is not private. */
public final class FaceTest {
    private static final String[] METHODS = {
        "boolean put(int, int)", "boolean set(int, int)", "boolean write(int, int)", "int general(int)",
        "int special(int)", "int step(int)", "int steps()", "int translate(int, int)", "int vector()",
        "int word(int)"
    };

    public static void main(String[] args) throws ReflectiveOperationException {
        Check check = new Check();
        Class<MappedProcessor> face = MappedProcessor.class;
        check.due("class public", Modifier.isPublic(face.getModifiers()), true);
        check.due("class final", Modifier.isFinal(face.getModifiers()), true);
        check.due("NONE", MappedProcessor.NONE, -1);
        check.due("NONE final", Modifier.isFinal(face.getField("NONE").getModifiers()), true);

        TreeSet<String> methods = new TreeSet<>();
        TreeSet<String> hidden = new TreeSet<>();
        for (Method m : face.getDeclaredMethods()) {
            if (isHidden(m)) {
                hidden.add(m.getName());
            } else {
                methods.add(told(m));
            }
        }
        check.due("methods " + methods, methods.equals(new TreeSet<>(Arrays.asList(METHODS))), true);
        for (Method m : face.getDeclaredMethods()) {
            check.due("private " + m.getName(), !isHidden(m) && hidden.contains(m.getName()), false);
        }
        for (Field f : face.getDeclaredFields()) {
            check.due("field " + f.getName(), isHidden(f) || f.getName().equals("NONE"), true);
        }
        Constructor<?>[] constructors = face.getDeclaredConstructors();
        check.due("constructors", constructors.length, 1);
        check.due("constructor public", Modifier.isPublic(constructors[0].getModifiers()), true);
        check.due("constructor takes", constructors[0].getParameterCount(), 0);
        check.end();
    }

    private static boolean isHidden(Member m) {
        return Modifier.isPrivate(m.getModifiers());
    }

    private static String told(Method m) {
        String types = Arrays.toString(m.getParameterTypes());
        return m.getReturnType() + " " + m.getName() + "(" + types.substring(1, types.length() - 1) + ")";
    }
}
