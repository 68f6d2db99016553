import java.lang.reflect.Constructor;
import java.lang.reflect.Field;
import java.lang.reflect.Member;
import java.lang.reflect.Method;
import java.lang.reflect.Modifier;
import java.util.ArrayList;
import java.util.Arrays;
import java.util.Collections;
import java.util.List;

/** The public face: the class, its constructor, constants and methods, and no other member in sight. */
public final class FaceTest {
    private static final String INDEX = "IndexOutOfBoundsException";
    private static final String STATE = "IllegalStateException";
    private static final String ARGUMENT = "IllegalArgumentException";

    private static final String[] DUE = {
        "int NONE",
        "ConfigDesk()",
        "int open(int) " + INDEX,
        "int add(int, int, int, int) " + INDEX + " " + STATE + " " + ARGUMENT,
        "int remove(int, int, int) " + INDEX + " " + STATE,
        "int move(int, int, int, int) " + INDEX + " " + STATE + " " + ARGUMENT,
        "int set(int, int, int, int, int) " + INDEX + " " + ARGUMENT + " " + STATE,
        "int join(int, int, int, int) " + INDEX + " " + ARGUMENT + " " + STATE,
        "int setGroup(int, int, int, int) " + INDEX + " " + ARGUMENT + " " + STATE,
        "void load(int, int) " + INDEX + " " + STATE,
        "int apply(int, int, int, boolean) " + INDEX + " " + STATE,
        "int rule(int, int, int, int) " + INDEX + " " + ARGUMENT + " " + STATE,
        "int faults(int) " + INDEX,
        "int commit(int, int) " + INDEX + " " + ARGUMENT + " " + STATE,
        "int confirm() " + STATE,
        "int advance(int) " + ARGUMENT,
        "int running()",
        "int waiting()",
        "int size(int, int) " + INDEX,
        "int keyAt(int, int, int) " + INDEX,
        "int shown(int, int, int, int) " + INDEX,
        "int own(int, int, int) " + INDEX,
        "boolean same(int, int) " + INDEX,
        "int edits(int, int) " + INDEX,
        "int editAt(int, int, int) " + INDEX,
    };

    public static void main(String[] args) {
        List<String> due = new ArrayList<>(Arrays.asList(DUE));
        List<String> got = faceOf(ConfigDesk.class);
        Collections.sort(due);
        Collections.sort(got);
        Check.compare(due.toString(), "the face", got.toString());
        Check.is(-1, "NONE", () -> ConfigDesk.NONE);
        Check.compare("public final", "the class", Modifier.toString(ConfigDesk.class.getModifiers()));
        for (Class<?> inside : ConfigDesk.class.getDeclaredClasses()) {
            boolean fits = inside.isInterface() || Modifier.isStatic(inside.getModifiers());
            boolean isHidden = (inside.getModifiers() & (Modifier.PUBLIC | Modifier.PROTECTED)) == 0;
            Check.compare("true", inside.getName() + " is static and hidden", Boolean.toString(fits && isHidden));
        }
        Check.end("FaceTest");
    }

    private static List<String> faceOf(Class<?> type) {
        List<String> face = new ArrayList<>();
        for (Field field : type.getDeclaredFields()) {
            if (isInSight(field)) {
                face.add(field.getType() + " " + field.getName());
            }
        }
        for (Constructor<?> constructor : type.getDeclaredConstructors()) {
            if (isInSight(constructor)) {
                face.add(constructor.getName() + "(" + names(constructor.getParameterTypes(), ", ") + ")");
            }
        }
        for (Method method : type.getDeclaredMethods()) {
            if (isInSight(method)) {
                String thrown = names(method.getExceptionTypes(), " ");
                face.add(method.getReturnType() + " " + method.getName() + "(" + names(method.getParameterTypes(), ", ")
                    + ")" + (thrown.isEmpty() ? "" : " " + thrown));
            }
        }
        return face;
    }

    private static boolean isInSight(Member member) {
        return !Modifier.isPrivate(member.getModifiers()) && !member.isSynthetic();
    }

    private static String names(Class<?>[] types, String between) {
        StringBuilder names = new StringBuilder();
        for (int i = 0; i < types.length; i++) {
            names.append(i == 0 ? "" : between).append(types[i].getSimpleName());
        }
        return names.toString();
    }
}
