import java.lang.reflect.Constructor;
import java.lang.reflect.Executable;
import java.lang.reflect.Field;
import java.lang.reflect.Method;
import java.lang.reflect.Modifier;
import java.util.Arrays;
import java.util.Set;
import java.util.TreeSet;

/** The class has the document's face and no other member that can be seen from outside. */
public final class FaceTest {
    private static final String A = " IllegalArgumentException";
    private static final String S = " IllegalStateException";

    private static final Set<String> FACE = new TreeSet<>(Arrays.asList(
            "NONE=-1", "FULL=-2", "CLOSED=0", "ASKED=1", "OPEN=2", "LEAVING=3",
            "CreditLink[]",
            "void service[int, int, int, int, int]" + A,
            "int connect[int, int, int, int, int]" + A,
            "int feed[int, int, int, int, int]" + A + S,
            "int erase[]",
            "int send[int, int]" + A + S,
            "int grant[int, int, int]" + A + S,
            "void leave[int, int]" + A + S,
            "int take[int]" + A,
            "boolean lose[int]" + A,
            "int inject[int, int, int]" + A,
            "int receive[int, int]" + A,
            "int octet[int]",
            "int channel[int, int, int]" + A,
            "int count[int, int]" + A));

    public static void main(String[] args) throws IllegalAccessException {
        Set<String> found = new TreeSet<>();
        for (Field field : CreditLink.class.getDeclaredFields()) {
            if (!Modifier.isPrivate(field.getModifiers()) && !field.isSynthetic()) {
                found.add(field.getName() + "=" + field.getInt(null));
            }
        }
        for (Constructor<?> made : CreditLink.class.getDeclaredConstructors()) {
            found.add(words(made.getName(), made));
        }
        for (Method method : CreditLink.class.getDeclaredMethods()) {
            if (!Modifier.isPrivate(method.getModifiers()) && !method.isSynthetic()) {
                found.add(words(method.getReturnType() + " " + method.getName(), method));
            }
        }
        Check.same("the face", found.toString(), FACE.toString());
        int modifiers = CreditLink.class.getModifiers();
        Check.same("public and final", modifiers, Modifier.PUBLIC | Modifier.FINAL);
        Check.end();
    }

    private static String words(String name, Executable of) {
        StringBuilder all = new StringBuilder(name).append(Arrays.toString(of.getParameterTypes()));
        for (Class<?> thrown : of.getExceptionTypes()) {
            all.append(' ').append(thrown.getSimpleName());
        }
        return all.toString();
    }
}
