import java.lang.reflect.Constructor;
import java.lang.reflect.Field;
import java.lang.reflect.Method;
import java.lang.reflect.Modifier;
import java.util.Arrays;
import java.util.TreeSet;

/** The face is the document's, whole, and nothing else can be seen from outside. */
public final class FaceTest {
    private static final String[] FACE = {
        "int lot(int,int,int,boolean) IllegalArgumentException IllegalStateException",
        "int comes(int) IndexOutOfBoundsException IllegalStateException",
        "int picture(int,int,int) IllegalArgumentException IllegalStateException",
        "int cell(int,int,int,int) IndexOutOfBoundsException IllegalArgumentException IllegalStateException",
        "int old(int,int,int,int) IndexOutOfBoundsException IllegalArgumentException IllegalStateException",
        "int fill(int) IndexOutOfBoundsException",
        "int design(int) IndexOutOfBoundsException",
        "int share(int,int,int) IndexOutOfBoundsException IllegalArgumentException",
        "int send(int,int) IndexOutOfBoundsException",
        "int crew(int,int,int) IndexOutOfBoundsException IllegalArgumentException",
        "int tray(int,int) IndexOutOfBoundsException IllegalArgumentException",
        "boolean load(int,int) IndexOutOfBoundsException",
        "int pass(int) IllegalArgumentException",
        "int hour()",
        "int ofCell(int,int,int,int) IndexOutOfBoundsException IllegalArgumentException",
        "int aimAnew(int,int,int) IndexOutOfBoundsException",
        "int edge(int) IndexOutOfBoundsException",
        "int ofLot(int,int) IndexOutOfBoundsException IllegalArgumentException",
        "int ofPicture(int,int) IndexOutOfBoundsException IllegalArgumentException",
        "int ofCrew(int,int) IndexOutOfBoundsException IllegalArgumentException",
        "int GLASS", "int MARBLE", "int OPEN", "int PROMISED", "int LAID", "int OLD",
        "new()",
    };

    public static void main(String[] args) {
        TreeSet<String> seen = new TreeSet<>();
        for (Method method : TesseraeRow.class.getDeclaredMethods()) {
            if (!Modifier.isPrivate(method.getModifiers()) && !method.isSynthetic()) {
                seen.add(told(method));
            }
        }
        for (Field field : TesseraeRow.class.getDeclaredFields()) {
            if (!Modifier.isPrivate(field.getModifiers()) && !field.isSynthetic()) {
                seen.add(field.getType().getSimpleName() + " " + field.getName());
            }
        }
        for (Constructor<?> made : TesseraeRow.class.getDeclaredConstructors()) {
            seen.add("new(" + types(made.getParameterTypes(), ",") + ")");
        }
        Check.same("the face", String.join("\n", seen), String.join("\n", new TreeSet<>(Arrays.asList(FACE))));
        Check.due("the class's marks", TesseraeRow.class.getModifiers(), Modifier.PUBLIC | Modifier.FINAL);
        constants();
        Check.end("the face");
    }

    private static void constants() {
        Check.due("GLASS", TesseraeRow.GLASS, 0);
        Check.due("MARBLE", TesseraeRow.MARBLE, 1);
        Check.due("OPEN", TesseraeRow.OPEN, 0);
        Check.due("PROMISED", TesseraeRow.PROMISED, 1);
        Check.due("LAID", TesseraeRow.LAID, 2);
        Check.due("OLD", TesseraeRow.OLD, 3);
    }

    private static String told(Method method) {
        String thrown = types(method.getExceptionTypes(), " ");
        return method.getReturnType().getSimpleName() + " " + method.getName()
                + "(" + types(method.getParameterTypes(), ",") + ")" + (thrown.isEmpty() ? "" : " " + thrown);
    }

    private static String types(Class<?>[] types, String between) {
        String[] names = new String[types.length];
        for (int i = 0; i < types.length; i++) {
            names[i] = types[i].getSimpleName();
        }
        return String.join(between, names);
    }
}
