import java.io.DataInputStream;
import java.io.IOException;
import java.lang.reflect.Executable;
import java.lang.reflect.Field;
import java.lang.reflect.Method;
import java.lang.reflect.Modifier;
import java.util.ArrayList;
import java.util.Arrays;
import java.util.HashSet;
import java.util.List;
import java.util.Set;
import java.util.TreeSet;

/**
 * The rules of LANGUAGE.md that can be read off the compiled class: what it is made of, and what it uses of the
 * library. How its code is written (loops, divisors, indexes) cannot be, and is left to reading.
 */
public final class LanguageTest {
    /** All that is used of the library: made, by new. What rule 4 lists beside it goes in here when it is needed. */
    private static final Set<String> LIBRARY = Set.of("java/lang/Object.<init>",
            "java/lang/IllegalArgumentException.<init>", "java/lang/IllegalStateException.<init>",
            "java/lang/IndexOutOfBoundsException.<init>");

    private static final int MOST_CLASSES = 12, MOST_FIELDS = 20, MOST_PARAMETERS = 7;

    public static void main(String[] args) throws IOException {
        List<Class<?>> classes = new ArrayList<>();
        addWithInner(TesseraeRow.class, classes);
        Check.due("no more than twelve classes", classes.size() <= MOST_CLASSES, true);
        for (Class<?> one : classes) {
            kind(one);
            fields(one);
            methods(one);
            for (String used : usedBy(one)) {
                Check.due(one.getName() + " may use " + used, isOwn(used) || LIBRARY.contains(used), true);
            }
        }
        Check.end("the rules of the language");
    }

    private static void addWithInner(Class<?> one, List<Class<?>> all) {
        all.add(one);
        for (Class<?> inner : one.getDeclaredClasses()) {
            addWithInner(inner, all);
        }
    }

    /** Rules 1, 2 and 6. */
    private static void kind(Class<?> one) {
        int marks = one.getModifiers();
        boolean inside = one != TesseraeRow.class;
        Check.due(one.getName() + " is seen", Modifier.isPublic(marks) || Modifier.isProtected(marks), !inside);
        Check.due(one.getName() + " is static", Modifier.isStatic(marks), inside);
        Check.due(one.getName() + " is no exception", Throwable.class.isAssignableFrom(one), false);
    }

    /** Rules 3, 5 and 11. */
    private static void fields(Class<?> one) {
        int ofObjects = 0;
        for (Field field : one.getDeclaredFields()) {
            String name = one.getName() + "." + field.getName();
            Check.due(name + " is of a type that may be", isTypeThatMayBe(field.getType()), true);
            if (Modifier.isStatic(field.getModifiers())) {
                Check.due(name + ", static, is final", Modifier.isFinal(field.getModifiers()), true);
            } else {
                ofObjects++;
            }
        }
        Check.due(one.getName() + " has no more than twenty fields", ofObjects <= MOST_FIELDS, true);
    }

    private static boolean isTypeThatMayBe(Class<?> type) {
        Class<?> part = type.isArray() ? type.getComponentType() : type;
        if (part.isArray()) {
            return part.getComponentType().isPrimitive();
        }
        return part.isPrimitive() || part == String.class || part.getName().startsWith("TesseraeRow$");
    }

    /** Rules 1, 6 and 11. */
    private static void methods(Class<?> one) {
        List<Executable> all = new ArrayList<>(Arrays.asList(one.getDeclaredConstructors()));
        Set<String> face = new HashSet<>();
        for (Method method : TesseraeRow.class.getDeclaredMethods()) {
            if (Modifier.isPublic(method.getModifiers())) {
                face.add(method.getName());
            }
        }
        for (Method method : one.getDeclaredMethods()) {
            all.add(method);
            String name = one.getName() + "." + method.getName();
            boolean hidden = Modifier.isPrivate(method.getModifiers());
            Check.due(name + " is private with a name of the face", hidden && face.contains(method.getName()), false);
            boolean ofAnyObject = Set.of("equals", "hashCode", "toString").contains(method.getName());
            Check.due(name + " is none of any object's", ofAnyObject, false);
        }
        for (Executable made : all) {
            Check.due(made + " has no more than seven parameters", made.getParameterCount() <= MOST_PARAMETERS, true);
        }
    }

    private static boolean isOwn(String used) {
        String name = used.replaceFirst("^\\[+L?", "");
        boolean numbers = used.startsWith("[") && name.length() == 1;
        return numbers || name.matches("TesseraeRow(\\$\\w+)?[.;].*");
    }

    /** Each method and field that the class names, with the class that it is of, and each class of an array. */
    private static Set<String> usedBy(Class<?> one) throws IOException {
        try (DataInputStream in = new DataInputStream(one.getResourceAsStream("/" + one.getName() + ".class"))) {
            // The mark of a class file, and its version.
            in.readLong();
            return new Constants(in).used();
        }
    }

    /** The table of constants with which a class file begins, as far as it names things. */
    private static final class Constants {
        private final int[] tags;
        private final int[] first;
        private final int[] second;
        private final String[] texts;

        Constants(DataInputStream in) throws IOException {
            int many = in.readUnsignedShort();
            tags = new int[many];
            first = new int[many];
            second = new int[many];
            texts = new String[many];
            for (int i = 1; i < many; i++) {
                tags[i] = in.readUnsignedByte();
                read(i, in);
                if (tags[i] == 5 || tags[i] == 6) {
                    i++;
                }
            }
        }

        private void read(int i, DataInputStream in) throws IOException {
            switch (tags[i]) {
                case 1:
                    texts[i] = in.readUTF();
                    break;
                case 5: case 6:
                    in.readLong();
                    break;
                case 7: case 8: case 16: case 19: case 20:
                    first[i] = in.readUnsignedShort();
                    break;
                case 15:
                    in.readUnsignedByte();
                    second[i] = in.readUnsignedShort();
                    break;
                default:
                    first[i] = in.readUnsignedShort();
                    second[i] = in.readUnsignedShort();
            }
        }

        Set<String> used() {
            Set<String> names = new TreeSet<>();
            for (int i = 1; i < tags.length; i++) {
                if (tags[i] >= 9 && tags[i] <= 11) {
                    names.add(texts[first[first[i]]] + "." + texts[first[second[i]]]);
                } else if (tags[i] >= 15 && tags[i] <= 18) {
                    names.add("a lambda, a method reference or a text joined by +");
                } else if (tags[i] == 7 && texts[first[i]].startsWith("[")) {
                    names.add(texts[first[i]]);
                }
            }
            return names;
        }
    }
}
