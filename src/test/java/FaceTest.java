import java.lang.reflect.Constructor;
import java.lang.reflect.Field;
import java.lang.reflect.Method;
import java.lang.reflect.Modifier;
import java.util.Arrays;
import java.util.TreeSet;

/** The public face is the document's and nothing else can be seen (LANGUAGE.md, rule 1). */
public final class FaceTest {
    private static final String[] FACE = {
        "boolean box(int,int,int,int)", "boolean glue(int,int,int,int)", "boolean kern(int)",
        "boolean page(int,int)", "boolean penalty(int)", "boolean rule(int,int,int)",
        "boolean top(int,int,int,int)", "int about(int,int) IndexOutOfBoundsException",
        "int build() UnsupportedOperationException", "int count(int)",
        "int item(int,int,int) IndexOutOfBoundsException", "long sum(int)",
    };

    public static void main(String[] args) {
        Check check = new Check("FaceTest");
        Class<?> face = ColumnDesk.class;
        check.yes("the class is public", Modifier.isPublic(face.getModifiers()));
        check.yes("the class is final", Modifier.isFinal(face.getModifiers()));
        check.due("NONE", ColumnDesk.NONE, -1);
        check.yes("the methods", methods(face).equals(new TreeSet<>(Arrays.asList(FACE))));
        check.due("how many constructors", face.getDeclaredConstructors().length, 1);
        for (Constructor<?> c : face.getDeclaredConstructors()) {
            check.yes("the constructor", Modifier.isPublic(c.getModifiers()) && c.getParameterCount() == 0);
        }
        for (Field f : face.getDeclaredFields()) {
            boolean isNone = f.getName().equals("NONE") && Modifier.isPublic(f.getModifiers());
            check.yes("the field " + f.getName(), isNone || Modifier.isPrivate(f.getModifiers()));
        }
        check.end();
    }

    private static TreeSet<String> methods(Class<?> face) {
        TreeSet<String> seen = new TreeSet<>();
        for (Method m : face.getDeclaredMethods()) {
            if (!Modifier.isPrivate(m.getModifiers())) {
                seen.add(asText(m));
            }
        }
        return seen;
    }

    private static String asText(Method m) {
        StringBuilder text = new StringBuilder(m.getReturnType() + " " + m.getName() + "(");
        for (int i = 0; i < m.getParameterCount(); i++) {
            text.append(i == 0 ? "" : ",").append(m.getParameterTypes()[i]);
        }
        text.append(")");
        for (Class<?> e : m.getExceptionTypes()) {
            text.append(" ").append(e.getSimpleName());
        }
        return text.toString();
    }
}
