import java.io.DataInputStream;
import java.io.IOException;
import java.io.InputStream;
import java.lang.reflect.Executable;
import java.lang.reflect.Field;
import java.lang.reflect.Method;
import java.lang.reflect.Modifier;
import java.util.ArrayList;
import java.util.HashSet;
import java.util.List;
import java.util.Set;

/**
 * What can be told from the compiled classes of the rules in ../shared/LANGUAGE.md: names, numbers of things, static
 * state, and the library that is used. A text that is joined by +, a lambda, a method reference and a switch with
 * patterns all show as a dynamic call; so does a record, which is permitted, but which the program does without.
 */
public final class LanguageTest {
    private static final Set<String> LIBRARY = Set.of("java/lang/Object", "java/lang/String", "java/lang/StringBuilder",
        "java/lang/Integer", "java/lang/Long", "java/lang/Math", "java/lang/System", "java/lang/Comparable",
        "java/lang/Iterable", "java/lang/Enum", "java/lang/Record", "java/util/ArrayList", "java/util/List",
        "java/util/Iterator", "java/util/Arrays", "java/util/NoSuchElementException",
        "java/lang/IllegalStateException", "java/lang/IllegalArgumentException",
        "java/lang/IndexOutOfBoundsException", "java/lang/ArithmeticException",
        "java/lang/UnsupportedOperationException", "java/lang/RuntimeException");

    private static final Set<String> NEVER_WRITTEN = Set.of("equals", "hashCode", "toString");

    private static final int CLASS = 7;
    private static final int TEXT = 1;

    public static void main(String[] args) throws IOException {
        List<Class<?>> classes = new ArrayList<>();
        collect(ConfigDesk.class, classes);
        holds("some twelve classes at most", classes.size() <= 12);
        holds("no package", ConfigDesk.class.getPackageName().isEmpty());
        for (Class<?> type : classes) {
            names(type);
            fields(type);
            library(type);
        }
        Check.end("LanguageTest");
    }

    private static void holds(String what, boolean does) {
        Check.compare("true", what, Boolean.toString(does));
    }

    private static void collect(Class<?> type, List<Class<?>> classes) {
        classes.add(type);
        for (Class<?> inside : type.getDeclaredClasses()) {
            collect(inside, classes);
        }
    }

    /** "No private method bears the name of a public one"; "No equals, hashCode or toString"; "at most seven". */
    private static void names(Class<?> type) {
        Set<String> face = new HashSet<>();
        for (Method method : ConfigDesk.class.getDeclaredMethods()) {
            if (Modifier.isPublic(method.getModifiers())) {
                face.add(method.getName());
            }
        }
        List<Executable> all = new ArrayList<>(List.of(type.getDeclaredMethods()));
        all.addAll(List.of(type.getDeclaredConstructors()));
        for (Executable one : all) {
            String name = type.getSimpleName() + "." + one.getName();
            boolean isFace = Modifier.isPublic(one.getModifiers());
            holds(name + " has no name of the face", isFace || !face.contains(one.getName()));
            holds(name + " may be written", !NEVER_WRITTEN.contains(one.getName()));
            holds(name + " has at most seven parameters", one.getParameterCount() <= 7);
            holds(name + " is not synchronized", !Modifier.isSynchronized(one.getModifiers()));
        }
    }

    /** "Static fields are final"; "a class some twenty fields beside its constants". */
    private static void fields(Class<?> type) {
        int count = 0;
        for (Field field : type.getDeclaredFields()) {
            if (Modifier.isStatic(field.getModifiers())) {
                holds(field + " is a constant", Modifier.isFinal(field.getModifiers()));
            } else {
                count++;
            }
        }
        holds(type + " has some twenty fields at most", count <= 20);
    }

    private static void library(Class<?> type) throws IOException {
        String file = type.getName() + ".class";
        try (InputStream bytes = ConfigDesk.class.getResourceAsStream(file);
                DataInputStream data = new DataInputStream(bytes)) {
            data.skipBytes(8);
            int size = data.readUnsignedShort();
            String[] texts = new String[size];
            int[] namesOfClasses = new int[size];
            for (int i = 1; i < size; i++) {
                int tag = data.readUnsignedByte();
                if (tag == TEXT) {
                    texts[i] = data.readUTF();
                } else if (tag == CLASS) {
                    namesOfClasses[i] = data.readUnsignedShort();
                } else {
                    holds(file + " has no dynamic call", tag < 15);
                    data.skipBytes(tag == 8 ? 2 : tag == 5 || tag == 6 ? 8 : 4);
                    i += tag == 5 || tag == 6 ? 1 : 0;
                }
            }
            for (int name : namesOfClasses) {
                if (name != 0) {
                    isPermitted(file, texts[name]);
                }
            }
        }
    }

    private static void isPermitted(String file, String name) {
        String plain = name.replaceFirst("^\\[+L?", "").replace(";", "");
        boolean isOwn = plain.equals("ConfigDesk") || plain.startsWith("ConfigDesk$") || plain.length() == 1;
        holds(file + " may use " + plain, isOwn || LIBRARY.contains(plain));
    }
}
