import java.lang.reflect.Constructor;
import java.lang.reflect.Field;
import java.lang.reflect.Member;
import java.lang.reflect.Method;
import java.lang.reflect.Modifier;
import java.util.Set;
import java.util.TreeSet;

/** The public face is the document's, and nothing else of the class can be seen from outside. */
public final class FaceTest {
    private static final String BAD_INDEX = "IndexOutOfBoundsException";
    private static final String BAD_ARGUMENT = "IllegalArgumentException";
    private static final String BAD_STATE = "IllegalStateException";

    private static String line(String head, int arguments, String... thrown) {
        StringBuilder text = new StringBuilder(head).append('(');
        for (int i = 0; i < arguments; i++) {
            text.append(i == 0 ? "int" : ", int");
        }
        text.append(')');
        for (String one : thrown) {
            text.append(' ').append(one);
        }
        return text.toString();
    }

    private static Set<String> dueFace() {
        return new TreeSet<>(Set.of(
            line("int rig", 4, BAD_ARGUMENT, BAD_STATE),
            line("int weigh", 2, BAD_INDEX, BAD_ARGUMENT, BAD_STATE),
            line("int mend", 1, BAD_INDEX),
            line("int spread", 2, BAD_ARGUMENT, BAD_STATE),
            line("int join", 0, BAD_STATE),
            line("int mount", 2, BAD_INDEX, BAD_STATE),
            line("int cue", 4, BAD_INDEX, BAD_ARGUMENT, BAD_STATE),
            line("int trapeze", 2, BAD_INDEX),
            line("int flyer", 2, BAD_INDEX),
            line("int called", 2, BAD_INDEX),
            line("int count", 1, BAD_INDEX),
            line("int place", 2, BAD_INDEX, BAD_ARGUMENT),
            line("boolean netAt", 1),
            line("int go", 1, BAD_ARGUMENT),
            line("int meets", 2, BAD_INDEX),
            line("int flight", 2, BAD_INDEX),
            line("int advise", 2, BAD_INDEX, BAD_ARGUMENT),
            line("int foresee", 2, BAD_ARGUMENT, BAD_INDEX),
            line("double mean", 0),
            line("long digest", 0)));
    }

    private static Set<String> foundFace(Set<String> names) {
        Set<String> found = new TreeSet<>();
        for (Method method : CircusLines.class.getDeclaredMethods()) {
            if (!Modifier.isPublic(method.getModifiers())) {
                continue;
            }
            names.add(method.getName());
            String[] thrown = new String[method.getExceptionTypes().length];
            for (int i = 0; i < thrown.length; i++) {
                thrown[i] = method.getExceptionTypes()[i].getSimpleName();
            }
            for (Class<?> type : method.getParameterTypes()) {
                Checks.due(method.getName() + " takes ints", type == int.class, true);
            }
            found.add(line(method.getReturnType() + " " + method.getName(), method.getParameterCount(), thrown));
        }
        return found;
    }

    private static void isHidden(Member member) {
        int bits = member.getModifiers();
        Checks.due(member.getName() + " is public or private", Modifier.isPublic(bits) || Modifier.isPrivate(bits), true);
    }

    public static void main(String[] args) {
        Set<String> names = new TreeSet<>();
        Set<String> found = foundFace(names);
        if (!found.equals(dueFace())) {
            Checks.report("the face is " + found + ", due is " + dueFace());
        }
        for (Method method : CircusLines.class.getDeclaredMethods()) {
            isHidden(method);
            boolean hidden = Modifier.isPrivate(method.getModifiers());
            Checks.due("a private " + method.getName(), hidden && names.contains(method.getName()), false);
        }
        for (Field field : CircusLines.class.getDeclaredFields()) {
            int bits = field.getModifiers();
            Checks.due(field.getName() + " is private", Modifier.isPrivate(bits), true);
            Checks.due(field.getName() + " static but not final", Modifier.isStatic(bits) && !Modifier.isFinal(bits), false);
        }
        for (Class<?> inside : CircusLines.class.getDeclaredClasses()) {
            int bits = inside.getModifiers();
            Checks.due(inside.getName() + " is static", Modifier.isStatic(bits), true);
            Checks.due(inside.getName() + " is hidden", Modifier.isPublic(bits) || Modifier.isProtected(bits), false);
        }
        Constructor<?>[] constructors = CircusLines.class.getDeclaredConstructors();
        Checks.due("constructors", constructors.length, 1);
        Checks.due("arguments of it", constructors[0].getParameterCount(), 0);
        Checks.due("it is public", Modifier.isPublic(constructors[0].getModifiers()), true);
        Checks.due("the class is final", Modifier.isFinal(CircusLines.class.getModifiers()), true);
        Checks.end();
    }
}
